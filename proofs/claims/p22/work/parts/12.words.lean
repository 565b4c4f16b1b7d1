theorem wm_X12_1 : Cond.methodLink RX12 1 yX12_isIn ∈ gT := gU_6 125 rfl rfl
theorem cf_X12_isIn : Cf yX12_isIn cX12_isIn 3 (some .boolean) 3 := ⟨gU_6 127 rfl rfl, gU_1 18 rfl rfl, by decide +kernel, by decide +kernel, by decide +kernel⟩
theorem ws_X12_isIn : Cond.static yX12_isIn ∈ gT := gU_6 126 rfl rfl
theorem wm_X12_149 : Cond.methodLink RX12 149 yX12_packs ∈ gT := gU_5 133 rfl rfl
theorem wf_X12_157 : Cond.fieldLink RX12 157 "LawHolesModel" "day" "I" ∈ gT := gU_5 145 rfl rfl
theorem wf_X12_13 : Cond.fieldLink RX12 13 "LawHolesModel" "coin" "[I" ∈ gT := gU_5 140 rfl rfl
theorem wf_X12_20 : Cond.fieldLink RX12 20 "LawHolesModel" "owner" "[I" ∈ gT := gU_5 142 rfl rfl
theorem wf_X12_23 : Cond.fieldLink RX12 23 "LawHolesModel" "wed" "[Z" ∈ gT := gU_5 143 rfl rfl
theorem wm_X12_160 : Cond.methodLink RX12 160 yX12_other ∈ gT := gU_5 137 rfl rfl
theorem cf_X12_other : Cf yX12_other cX12_other 2 (some .int) 2 := ⟨gU_5 139 rfl rfl, gU_1 18 rfl rfl, by decide +kernel, by decide +kernel, by decide +kernel⟩
theorem ws_X12_other : Cond.static yX12_other ∈ gT := gU_5 138 rfl rfl
theorem wf_X12_17 : Cond.fieldLink RX12 17 "LawHolesModel" "debt" "[I" ∈ gT := gU_5 141 rfl rfl
theorem wf_X12_27 : Cond.fieldLink RX12 27 "LawHolesModel" "child" "[Z" ∈ gT := gU_5 144 rfl rfl
theorem cf_X12_packs : Cf yX12_packs cX12_packs 5 (some .long) 0 := ⟨gU_5 136 rfl rfl, gU_1 18 rfl rfl, by decide +kernel, by decide +kernel, by decide +kernel⟩
theorem wi_X12_packs : Cond.instanceMethod yX12_packs ∈ gT := gU_5 135 rfl rfl
theorem ws_X12_packs : Cond.selects yX12_packs.cls yX12_packs yX12_packs ∈ gT := gT_of 32 (by decide +kernel) (by decide +kernel)
theorem wf_X12_153 : Cond.fieldLink RX12 153 "LawHolesModel" "beginning" "J" ∈ gT := gU_5 146 rfl rfl
theorem wf_X12_282 : Cond.fieldLink RX12 282 "LawHolesModel" "depth" "I" ∈ gT := gU_5 173 rfl rfl
theorem wm_X12_310 : Cond.methodLink RX12 310 yX12_any ∈ gT := gU_6 234 rfl rfl
theorem wm_X12_304 : Cond.methodLink RX12 304 yX12_single ∈ gT := gU_7 2 rfl rfl
theorem cf_X12_single : Cf yX12_single cX12_single 2 (some .boolean) 0 := ⟨gU_7 5 rfl rfl, gU_1 18 rfl rfl, by decide +kernel, by decide +kernel, by decide +kernel⟩
theorem wi_X12_single : Cond.instanceMethod yX12_single ∈ gT := gU_7 4 rfl rfl
theorem ws_X12_single : Cond.selects yX12_single.cls yX12_single yX12_single ∈ gT := gT_of 47 (by decide +kernel) (by decide +kernel)
theorem wf_X12_242 : Cond.fieldLink RX12 242 "LawHolesModel" "token" "I" ∈ gT := gU_5 167 rfl rfl
theorem wm_X12_266 : Cond.methodLink RX12 266 yX12_next0 ∈ gT := gU_6 175 rfl rfl
theorem wf_X12_185 : Cond.fieldLink RX12 185 "LawHolesModel" "at" "I" ∈ gT := gU_5 166 rfl rfl
theorem wm_X12_238 : Cond.methodLink RX12 238 yX12_see ∈ gT := gU_6 179 rfl rfl
theorem wf_X12_182 : Cond.fieldLink RX12 182 "LawHolesModel" "taped" "I" ∈ gT := gU_5 165 rfl rfl
theorem wf_X12_78 : Cond.fieldLink RX12 78 "LawHolesModel" "tape" "[I" ∈ gT := gU_5 163 rfl rfl
theorem cf_X12_see : Cf yX12_see cX12_see 2 (some .int) 1 := ⟨gU_6 182 rfl rfl, gU_1 18 rfl rfl, by decide +kernel, by decide +kernel, by decide +kernel⟩
theorem wi_X12_see : Cond.instanceMethod yX12_see ∈ gT := gU_6 181 rfl rfl
theorem ws_X12_see : Cond.selects yX12_see.cls yX12_see yX12_see ∈ gT := gT_of 38 (by decide +kernel) (by decide +kernel)
theorem wf_X12_188 : Cond.fieldLink RX12 188 "LawHolesModel" "tokenAt" "I" ∈ gT := gU_5 168 rfl rfl
theorem wm_X12_245 : Cond.methodLink RX12 245 yX12_isLetter ∈ gT := gU_6 183 rfl rfl
theorem cf_X12_isLetter : Cf yX12_isLetter cX12_isLetter 1 (some .boolean) 1 := ⟨gU_6 185 rfl rfl, gU_1 18 rfl rfl, by decide +kernel, by decide +kernel, by decide +kernel⟩
theorem ws_X12_isLetter : Cond.static yX12_isLetter ∈ gT := gU_6 184 rfl rfl
theorem wm_X12_251 : Cond.methodLink RX12 251 yX12_isDigit ∈ gT := gU_6 215 rfl rfl
theorem cf_X12_isDigit : Cf yX12_isDigit cX12_isDigit 1 (some .boolean) 1 := ⟨gU_6 217 rfl rfl, gU_1 18 rfl rfl, by decide +kernel, by decide +kernel, by decide +kernel⟩
theorem ws_X12_isDigit : Cond.static yX12_isDigit ∈ gT := gU_6 216 rfl rfl
theorem wf_X12_254 : Cond.fieldLink RX12 254 "LawHolesModel" "value" "I" ∈ gT := gU_5 169 rfl rfl
theorem wm_X12_248 : Cond.methodLink RX12 248 yX12_word ∈ gT := gU_6 186 rfl rfl
theorem wm_X12_203 : Cond.methodLink RX12 203 yX12_is ∈ gT := gU_6 191 rfl rfl
theorem wm_X12_191 : Cond.methodLink RX12 191 yJ0_length_8abf5 ∈ gT := gU_6 195 rfl rfl
theorem cf_J0_length_8abf5 : Cf yJ0_length_8abf5 cJ0_length_8abf5 1 (some .int) 0 := ⟨gU_1 52 rfl rfl, gU_1 4 rfl rfl, by decide +kernel, by decide +kernel, by decide +kernel⟩
theorem wi_J0_length_8abf5 : Cond.instanceMethod yJ0_length_8abf5 ∈ gT := gU_1 50 rfl rfl
theorem ws_J0_length_8abf5 : Cond.selects yJ0_length_8abf5.cls yJ0_length_8abf5 yJ0_length_8abf5 ∈ gT := gU_1 51 rfl rfl
theorem wm_X12_197 : Cond.methodLink RX12 197 yJ0_charAt_5068e ∈ gT := gU_6 196 rfl rfl
theorem cf_J0_charAt_5068e : Cf yJ0_charAt_5068e cJ0_charAt_5068e 2 (some .char) 1 := ⟨gU_1 62 rfl rfl, gU_1 4 rfl rfl, by decide +kernel, by decide +kernel, by decide +kernel⟩
theorem wi_J0_charAt_5068e : Cond.instanceMethod yJ0_charAt_5068e ∈ gT := gU_1 60 rfl rfl
theorem ws_J0_charAt_5068e : Cond.selects yJ0_charAt_5068e.cls yJ0_charAt_5068e yJ0_charAt_5068e ∈ gT := gU_1 61 rfl rfl
theorem cf_X12_is : Cf yX12_is cX12_is 4 (some .boolean) 1 := ⟨gU_6 194 rfl rfl, gU_1 18 rfl rfl, by decide +kernel, by decide +kernel, by decide +kernel⟩
theorem wi_X12_is : Cond.instanceMethod yX12_is ∈ gT := gU_6 193 rfl rfl
theorem ws_X12_is : Cond.selects yX12_is.cls yX12_is yX12_is ∈ gT := gT_of 40 (by decide +kernel) (by decide +kernel)
theorem cf_X12_word : Cf yX12_word cX12_word 1 (some .int) 0 := ⟨gU_6 189 rfl rfl, gU_1 18 rfl rfl, by decide +kernel, by decide +kernel, by decide +kernel⟩
theorem wi_X12_word : Cond.instanceMethod yX12_word ∈ gT := gU_6 188 rfl rfl
theorem ws_X12_word : Cond.selects yX12_word.cls yX12_word yX12_word ∈ gT := gT_of 39 (by decide +kernel) (by decide +kernel)
theorem cf_X12_next0 : Cf yX12_next0 cX12_next0 3 none 0 := ⟨gU_6 178 rfl rfl, gU_1 18 rfl rfl, by decide +kernel, by decide +kernel, by decide +kernel⟩
theorem wi_X12_next0 : Cond.instanceMethod yX12_next0 ∈ gT := gU_6 177 rfl rfl
theorem ws_X12_next0 : Cond.selects yX12_next0.cls yX12_next0 yX12_next0 ∈ gT := gT_of 37 (by decide +kernel) (by decide +kernel)
theorem wm_X12_288 : Cond.methodLink RX12 288 yX12_lay ∈ gT := gU_7 10 rfl rfl
theorem wf_X12_30 : Cond.fieldLink RX12 30 "LawHolesModel" "step" "[I" ∈ gT := gU_5 147 rfl rfl
theorem wf_X12_33 : Cond.fieldLink RX12 33 "LawHolesModel" "stepMany" "[I" ∈ gT := gU_5 148 rfl rfl
theorem cf_X12_lay : Cf yX12_lay cX12_lay 3 none 2 := ⟨gU_7 13 rfl rfl, gU_1 18 rfl rfl, by decide +kernel, by decide +kernel, by decide +kernel⟩
theorem wi_X12_lay : Cond.instanceMethod yX12_lay ∈ gT := gU_7 12 rfl rfl
theorem ws_X12_lay : Cond.selects yX12_lay.cls yX12_lay yX12_lay ∈ gT := gT_of 49 (by decide +kernel) (by decide +kernel)
theorem wm_X12_301 : Cond.methodLink RX12 301 yX12_every ∈ gT := gU_6 238 rfl rfl
theorem cf_X12_every : Cf yX12_every cX12_every 1 (some .boolean) 0 := ⟨gU_7 1 rfl rfl, gU_1 18 rfl rfl, by decide +kernel, by decide +kernel, by decide +kernel⟩
theorem wi_X12_every : Cond.instanceMethod yX12_every ∈ gT := gU_7 0 rfl rfl
theorem ws_X12_every : Cond.selects yX12_every.cls yX12_every yX12_every ∈ gT := gT_of 46 (by decide +kernel) (by decide +kernel)
theorem wm_X12_315 : Cond.methodLink RX12 315 yX12_sumUp ∈ gT := gU_7 18 rfl rfl
theorem wm_X12_285 : Cond.methodLink RX12 285 yX12_product ∈ gT := gU_7 22 rfl rfl
theorem wm_X12_292 : Cond.methodLink RX12 292 yX12_unit ∈ gT := gU_7 26 rfl rfl
theorem wm_X12_295 : Cond.methodLink RX12 295 yX12_persons ∈ gT := gU_7 30 rfl rfl
theorem wm_X12_276 : Cond.methodLink RX12 276 yX12_person ∈ gT := gU_7 34 rfl rfl
theorem wf_X12_269 : Cond.fieldLink RX12 269 "LawHolesModel" "one" "I" ∈ gT := gU_5 174 rfl rfl
theorem wf_X12_272 : Cond.fieldLink RX12 272 "LawHolesModel" "sawB" "Z" ∈ gT := gU_5 178 rfl rfl
theorem wm_X12_263 : Cond.methodLink RX12 263 yX12_bad ∈ gT := gU_6 222 rfl rfl
theorem wf_X12_257 : Cond.fieldLink RX12 257 "LawHolesModel" "wrong" "I" ∈ gT := gU_5 170 rfl rfl
theorem wf_X12_260 : Cond.fieldLink RX12 260 "LawHolesModel" "wrongAt" "I" ∈ gT := gU_5 171 rfl rfl
theorem cf_X12_bad : Cf yX12_bad cX12_bad 2 (some .boolean) 1 := ⟨gU_6 225 rfl rfl, gU_1 18 rfl rfl, by decide +kernel, by decide +kernel, by decide +kernel⟩
theorem wi_X12_bad : Cond.instanceMethod yX12_bad ∈ gT := gU_6 224 rfl rfl
theorem ws_X12_bad : Cond.selects yX12_bad.cls yX12_bad yX12_bad ∈ gT := gT_of 42 (by decide +kernel) (by decide +kernel)
theorem cf_X12_person : Cf yX12_person cX12_person 1 (some .boolean) 0 := ⟨gU_7 37 rfl rfl, gU_1 18 rfl rfl, by decide +kernel, by decide +kernel, by decide +kernel⟩
theorem wi_X12_person : Cond.instanceMethod yX12_person ∈ gT := gU_7 36 rfl rfl
theorem ws_X12_person : Cond.selects yX12_person.cls yX12_person yX12_person ∈ gT := gT_of 55 (by decide +kernel) (by decide +kernel)
theorem wf_X12_279 : Cond.fieldLink RX12 279 "LawHolesModel" "two" "I" ∈ gT := gU_5 175 rfl rfl
theorem cf_X12_persons : Cf yX12_persons cX12_persons 2 (some .boolean) 0 := ⟨gU_7 33 rfl rfl, gU_1 18 rfl rfl, by decide +kernel, by decide +kernel, by decide +kernel⟩
theorem wi_X12_persons : Cond.instanceMethod yX12_persons ∈ gT := gU_7 32 rfl rfl
theorem ws_X12_persons : Cond.selects yX12_persons.cls yX12_persons yX12_persons ∈ gT := gT_of 54 (by decide +kernel) (by decide +kernel)
theorem wf_X12_298 : Cond.fieldLink RX12 298 "LawHolesModel" "sawT" "Z" ∈ gT := gU_5 179 rfl rfl
theorem cf_X12_unit : Cf yX12_unit cX12_unit 3 (some .boolean) 0 := ⟨gU_7 29 rfl rfl, gU_1 18 rfl rfl, by decide +kernel, by decide +kernel, by decide +kernel⟩
theorem wi_X12_unit : Cond.instanceMethod yX12_unit ∈ gT := gU_7 28 rfl rfl
theorem ws_X12_unit : Cond.selects yX12_unit.cls yX12_unit yX12_unit ∈ gT := gT_of 53 (by decide +kernel) (by decide +kernel)
theorem cf_X12_product : Cf yX12_product cX12_product 1 (some .boolean) 0 := ⟨gU_7 25 rfl rfl, gU_1 18 rfl rfl, by decide +kernel, by decide +kernel, by decide +kernel⟩
theorem wi_X12_product : Cond.instanceMethod yX12_product ∈ gT := gU_7 24 rfl rfl
theorem ws_X12_product : Cond.selects yX12_product.cls yX12_product yX12_product ∈ gT := gT_of 52 (by decide +kernel) (by decide +kernel)
theorem cf_X12_sumUp : Cf yX12_sumUp cX12_sumUp 2 (some .boolean) 0 := ⟨gU_7 21 rfl rfl, gU_1 18 rfl rfl, by decide +kernel, by decide +kernel, by decide +kernel⟩
theorem wi_X12_sumUp : Cond.instanceMethod yX12_sumUp ∈ gT := gU_7 20 rfl rfl
theorem ws_X12_sumUp : Cond.selects yX12_sumUp.cls yX12_sumUp yX12_sumUp ∈ gT := gT_of 51 (by decide +kernel) (by decide +kernel)
theorem wm_X12_307 : Cond.methodLink RX12 307 yX12_opens ∈ gT := gU_7 6 rfl rfl
theorem cf_X12_opens : Cf yX12_opens cX12_opens 1 (some .boolean) 0 := ⟨gU_7 9 rfl rfl, gU_1 18 rfl rfl, by decide +kernel, by decide +kernel, by decide +kernel⟩
theorem wi_X12_opens : Cond.instanceMethod yX12_opens ∈ gT := gU_7 8 rfl rfl
theorem ws_X12_opens : Cond.selects yX12_opens.cls yX12_opens yX12_opens ∈ gT := gT_of 48 (by decide +kernel) (by decide +kernel)
theorem cf_X12_any : Cf yX12_any cX12_any 1 (some .boolean) 0 := ⟨gU_6 237 rfl rfl, gU_1 18 rfl rfl, by decide +kernel, by decide +kernel, by decide +kernel⟩
theorem wi_X12_any : Cond.instanceMethod yX12_any ∈ gT := gU_6 236 rfl rfl
theorem ws_X12_any : Cond.selects yX12_any.cls yX12_any yX12_any ∈ gT := gT_of 45 (by decide +kernel) (by decide +kernel)
theorem wm_X12_313 : Cond.methodLink RX12 313 yX12_need ∈ gT := gU_7 14 rfl rfl
theorem cf_X12_need : Cf yX12_need cX12_need 2 (some .boolean) 1 := ⟨gU_7 17 rfl rfl, gU_1 18 rfl rfl, by decide +kernel, by decide +kernel, by decide +kernel⟩
theorem wi_X12_need : Cond.instanceMethod yX12_need ∈ gT := gU_7 16 rfl rfl
theorem ws_X12_need : Cond.selects yX12_need.cls yX12_need yX12_need ∈ gT := gT_of 50 (by decide +kernel) (by decide +kernel)
theorem wf_X12_352 : Cond.fieldLink RX12 352 "LawHolesModel" "nevers" "I" ∈ gT := gU_5 180 rfl rfl
theorem wf_X12_84 : Cond.fieldLink RX12 84 "LawHolesModel" "faultPlace" "I" ∈ gT := gU_5 177 rfl rfl
theorem wf_X12_333 : Cond.fieldLink RX12 333 "LawHolesModel" "faultKind" "I" ∈ gT := gU_5 172 rfl rfl
theorem wf_X12_367 : Cond.fieldLink RX12 367 "LawHolesModel" "byB" "I" ∈ gT := gU_5 184 rfl rfl
theorem wf_X12_364 : Cond.fieldLink RX12 364 "LawHolesModel" "byA" "I" ∈ gT := gU_5 183 rfl rfl
theorem wf_X12_116 : Cond.fieldLink RX12 116 "LawHolesModel" "renames" "[I" ∈ gT := gU_5 198 rfl rfl
theorem wm_X12_174 : Cond.methodLink RX12 174 yX12_takes ∈ gT := gU_6 128 rfl rfl
theorem wl_X12_164 : Cond.constantLong RX12 164 7 ∈ gT := gU_6 132 rfl rfl
theorem wl_X12_166 : Cond.constantLong RX12 166 3 ∈ gT := gU_6 133 rfl rfl
theorem wl_X12_168 : Cond.constantLong RX12 168 15 ∈ gT := gU_6 134 rfl rfl
theorem cf_X12_takes : Cf yX12_takes cX12_takes 7 none 1 := ⟨gU_6 131 rfl rfl, gU_1 18 rfl rfl, by decide +kernel, by decide +kernel, by decide +kernel⟩
theorem wi_X12_takes : Cond.instanceMethod yX12_takes ∈ gT := gU_6 130 rfl rfl
theorem ws_X12_takes : Cond.selects yX12_takes.cls yX12_takes yX12_takes ∈ gT := gT_of 33 (by decide +kernel) (by decide +kernel)
theorem wm_X12_178 : Cond.methodLink RX12 178 yX12_told ∈ gT := gU_6 135 rfl rfl
theorem cf_X12_told : Cf yX12_told cX12_told 1 (some .boolean) 0 := ⟨gU_6 138 rfl rfl, gU_1 18 rfl rfl, by decide +kernel, by decide +kernel, by decide +kernel⟩
theorem wi_X12_told : Cond.instanceMethod yX12_told ∈ gT := gU_6 137 rfl rfl
theorem ws_X12_told : Cond.selects yX12_told.cls yX12_told yX12_told ∈ gT := gT_of 34 (by decide +kernel) (by decide +kernel)
theorem wf_X12_321 : Cond.fieldLink RX12 321 "LawHolesModel" "freshActs" "I" ∈ gT := gU_5 176 rfl rfl
theorem wm_X12_452 : Cond.methodLink RX12 452 yX12_isRow ∈ gT := gU_7 177 rfl rfl
theorem cf_X12_isRow : Cf yX12_isRow cX12_isRow 1 (some .boolean) 1 := ⟨gU_7 179 rfl rfl, gU_1 18 rfl rfl, by decide +kernel, by decide +kernel, by decide +kernel⟩
theorem ws_X12_isRow : Cond.static yX12_isRow ∈ gT := gU_7 178 rfl rfl
theorem wf_X12_140 : Cond.fieldLink RX12 140 "LawHolesModel" "rowLong" "[I" ∈ gT := gU_5 206 rfl rfl
theorem wf_X12_143 : Cond.fieldLink RX12 143 "LawHolesModel" "isHonest" "[Z" ∈ gT := gU_5 207 rfl rfl
theorem wf_X12_36 : Cond.fieldLink RX12 36 "LawHolesModel" "actMany" "[I" ∈ gT := gU_5 149 rfl rfl
theorem wm_X12_339 : Cond.methodLink RX12 339 yX12_begins ∈ gT := gU_6 171 rfl rfl
theorem cf_X12_begins : Cf yX12_begins cX12_begins 1 none 0 := ⟨gU_6 174 rfl rfl, gU_1 18 rfl rfl, by decide +kernel, by decide +kernel, by decide +kernel⟩
theorem wi_X12_begins : Cond.instanceMethod yX12_begins ∈ gT := gU_6 173 rfl rfl
theorem ws_X12_begins : Cond.selects yX12_begins.cls yX12_begins yX12_begins ∈ gT := gT_of 36 (by decide +kernel) (by decide +kernel)
theorem wm_X12_327 : Cond.methodLink RX12 327 yX12_asked ∈ gT := gU_6 230 rfl rfl
theorem cf_X12_asked : Cf yX12_asked cX12_asked 1 (some .boolean) 0 := ⟨gU_6 233 rfl rfl, gU_1 18 rfl rfl, by decide +kernel, by decide +kernel, by decide +kernel⟩
theorem wi_X12_asked : Cond.instanceMethod yX12_asked ∈ gT := gU_6 232 rfl rfl
theorem ws_X12_asked : Cond.selects yX12_asked.cls yX12_asked yX12_asked ∈ gT := gT_of 44 (by decide +kernel) (by decide +kernel)
theorem wm_X12_336 : Cond.methodLink RX12 336 yX12_ends ∈ gT := gU_6 167 rfl rfl
theorem cf_X12_ends : Cf yX12_ends cX12_ends 1 none 0 := ⟨gU_6 170 rfl rfl, gU_1 18 rfl rfl, by decide +kernel, by decide +kernel, by decide +kernel⟩
theorem wi_X12_ends : Cond.instanceMethod yX12_ends ∈ gT := gU_6 169 rfl rfl
theorem ws_X12_ends : Cond.selects yX12_ends.cls yX12_ends yX12_ends ∈ gT := gT_of 35 (by decide +kernel) (by decide +kernel)
theorem wf_X12_107 : Cond.fieldLink RX12 107 "LawHolesModel" "metLong" "[I" ∈ gT := gU_5 192 rfl rfl
theorem wf_X12_101 : Cond.fieldLink RX12 101 "LawHolesModel" "metFrom" "[I" ∈ gT := gU_5 190 rfl rfl
theorem wf_X12_104 : Cond.fieldLink RX12 104 "LawHolesModel" "metBy" "[I" ∈ gT := gU_5 191 rfl rfl
theorem wm_X12_170 : Cond.methodLink RX12 170 yX12_isOne ∈ gT := gU_6 122 rfl rfl
theorem cf_X12_isOne : Cf yX12_isOne cX12_isOne 1 (some .boolean) 1 := ⟨gU_6 124 rfl rfl, gU_1 18 rfl rfl, by decide +kernel, by decide +kernel, by decide +kernel⟩
theorem ws_X12_isOne : Cond.static yX12_isOne ∈ gT := gU_6 123 rfl rfl
theorem wm_X12_455 : Cond.methodLink RX12 455 yX12_isNumber ∈ gT := gU_7 180 rfl rfl
theorem cf_X12_isNumber : Cf yX12_isNumber cX12_isNumber 1 (some .boolean) 1 := ⟨gU_7 182 rfl rfl, gU_1 18 rfl rfl, by decide +kernel, by decide +kernel, by decide +kernel⟩
theorem ws_X12_isNumber : Cond.static yX12_isNumber ∈ gT := gU_7 181 rfl rfl
theorem wf_X12_470 : Cond.fieldLink RX12 470 "LawHolesModel" "pastLong" "I" ∈ gT := gU_5 211 rfl rfl
theorem wf_X12_146 : Cond.fieldLink RX12 146 "LawHolesModel" "past" "[I" ∈ gT := gU_5 210 rfl rfl
theorem wm_X12_464 : Cond.methodLink RX12 464 yX12_goes ∈ gT := gU_7 195 rfl rfl
theorem wf_X12_458 : Cond.fieldLink RX12 458 "LawHolesModel" "stands" "J" ∈ gT := gU_5 208 rfl rfl
theorem wf_X12_461 : Cond.fieldLink RX12 461 "LawHolesModel" "stops" "I" ∈ gT := gU_5 209 rfl rfl
theorem wf_X12_137 : Cond.fieldLink RX12 137 "LawHolesModel" "row" "[I" ∈ gT := gU_5 205 rfl rfl
theorem wm_X12_426 : Cond.methodLink RX12 426 yX12_whyNot ∈ gT := gU_7 122 rfl rfl
theorem wm_X12_389 : Cond.methodLink RX12 389 yX12_isCode ∈ gT := gU_7 126 rfl rfl
theorem wf_X12_370 : Cond.fieldLink RX12 370 "LawHolesModel" "byT" "I" ∈ gT := gU_5 185 rfl rfl
theorem wm_X12_361 : Cond.methodLink RX12 361 yX12_isAct ∈ gT := gU_7 74 rfl rfl
theorem cf_X12_isAct : Cf yX12_isAct cX12_isAct 2 (some .boolean) 1 := ⟨gU_7 77 rfl rfl, gU_1 18 rfl rfl, by decide +kernel, by decide +kernel, by decide +kernel⟩
theorem wi_X12_isAct : Cond.instanceMethod yX12_isAct ∈ gT := gU_7 76 rfl rfl
theorem ws_X12_isAct : Cond.selects yX12_isAct.cls yX12_isAct yX12_isAct ∈ gT := gT_of 61 (by decide +kernel) (by decide +kernel)
theorem wf_X12_72 : Cond.fieldLink RX12 72 "LawHolesModel" "hasB" "[Z" ∈ gT := gU_5 161 rfl rfl
theorem wf_X12_75 : Cond.fieldLink RX12 75 "LawHolesModel" "hasT" "[Z" ∈ gT := gU_5 162 rfl rfl
theorem cf_X12_isCode : Cf yX12_isCode cX12_isCode 4 (some .boolean) 2 := ⟨gU_7 129 rfl rfl, gU_1 18 rfl rfl, by decide +kernel, by decide +kernel, by decide +kernel⟩
theorem wi_X12_isCode : Cond.instanceMethod yX12_isCode ∈ gT := gU_7 128 rfl rfl
theorem ws_X12_isCode : Cond.selects yX12_isCode.cls yX12_isCode yX12_isCode ∈ gT := gT_of 72 (by decide +kernel) (by decide +kernel)
theorem wf_X12_39 : Cond.fieldLink RX12 39 "LawHolesModel" "needMany" "[I" ∈ gT := gU_5 150 rfl rfl
theorem wf_X12_45 : Cond.fieldLink RX12 45 "LawHolesModel" "needFrom" "[I" ∈ gT := gU_5 152 rfl rfl
theorem wf_X12_48 : Cond.fieldLink RX12 48 "LawHolesModel" "needTo" "[I" ∈ gT := gU_5 153 rfl rfl
theorem wm_X12_380 : Cond.methodLink RX12 380 yX12_comesTo ∈ gT := gU_7 107 rfl rfl
theorem wf_X12_81 : Cond.fieldLink RX12 81 "LawHolesModel" "pile" "[I" ∈ gT := gU_5 164 rfl rfl
theorem wm_X12_376 : Cond.methodLink RX12 376 yX12_both ∈ gT := gU_7 115 rfl rfl
theorem cf_X12_both : Cf yX12_both cX12_both 3 (some .int) 3 := ⟨gU_7 117 rfl rfl, gU_1 18 rfl rfl, by decide +kernel, by decide +kernel, by decide +kernel⟩
theorem ws_X12_both : Cond.static yX12_both ∈ gT := gU_7 116 rfl rfl
theorem wm_X12_373 : Cond.methodLink RX12 373 yX12_fact ∈ gT := gU_7 111 rfl rfl
theorem cf_X12_fact : Cf yX12_fact cX12_fact 8 (some .int) 2 := ⟨gU_7 114 rfl rfl, gU_1 18 rfl rfl, by decide +kernel, by decide +kernel, by decide +kernel⟩
theorem wi_X12_fact : Cond.instanceMethod yX12_fact ∈ gT := gU_7 113 rfl rfl
theorem ws_X12_fact : Cond.selects yX12_fact.cls yX12_fact yX12_fact ∈ gT := gT_of 69 (by decide +kernel) (by decide +kernel)
theorem cf_X12_comesTo : Cf yX12_comesTo cX12_comesTo 8 (some .int) 3 := ⟨gU_7 110 rfl rfl, gU_1 18 rfl rfl, by decide +kernel, by decide +kernel, by decide +kernel⟩
theorem wi_X12_comesTo : Cond.instanceMethod yX12_comesTo ∈ gT := gU_7 109 rfl rfl
theorem ws_X12_comesTo : Cond.selects yX12_comesTo.cls yX12_comesTo yX12_comesTo ∈ gT := gT_of 68 (by decide +kernel) (by decide +kernel)
theorem wf_X12_358 : Cond.fieldLink RX12 358 "LawHolesModel" "cures" "I" ∈ gT := gU_5 181 rfl rfl
theorem wf_X12_88 : Cond.fieldLink RX12 88 "LawHolesModel" "cureOf" "[I" ∈ gT := gU_5 182 rfl rfl
theorem wm_X12_393 : Cond.methodLink RX12 393 yX12_makes ∈ gT := gU_7 130 rfl rfl
theorem wf_X12_91 : Cond.fieldLink RX12 91 "LawHolesModel" "newCoin" "[I" ∈ gT := gU_5 187 rfl rfl
theorem wf_X12_94 : Cond.fieldLink RX12 94 "LawHolesModel" "newDebt" "[I" ∈ gT := gU_5 188 rfl rfl
theorem wf_X12_42 : Cond.fieldLink RX12 42 "LawHolesModel" "makeMany" "[I" ∈ gT := gU_5 151 rfl rfl
theorem wf_X12_51 : Cond.fieldLink RX12 51 "LawHolesModel" "makeKind" "[I" ∈ gT := gU_5 154 rfl rfl
theorem wf_X12_63 : Cond.fieldLink RX12 63 "LawHolesModel" "makeTo" "[I" ∈ gT := gU_5 158 rfl rfl
theorem wf_X12_60 : Cond.fieldLink RX12 60 "LawHolesModel" "makeFrom" "[I" ∈ gT := gU_5 157 rfl rfl
theorem wf_X12_54 : Cond.fieldLink RX12 54 "LawHolesModel" "makeOne" "[I" ∈ gT := gU_5 155 rfl rfl
theorem wm_X12_383 : Cond.methodLink RX12 383 yX12_stood ∈ gT := gU_7 134 rfl rfl
theorem cf_X12_stood : Cf yX12_stood cX12_stood 2 (some .int) 1 := ⟨gU_7 137 rfl rfl, gU_1 18 rfl rfl, by decide +kernel, by decide +kernel, by decide +kernel⟩
theorem wi_X12_stood : Cond.instanceMethod yX12_stood ∈ gT := gU_7 136 rfl rfl
theorem ws_X12_stood : Cond.selects yX12_stood.cls yX12_stood yX12_stood ∈ gT := gT_of 74 (by decide +kernel) (by decide +kernel)
theorem wf_X12_57 : Cond.fieldLink RX12 57 "LawHolesModel" "makeTwo" "[I" ∈ gT := gU_5 156 rfl rfl
theorem wm_X12_386 : Cond.methodLink RX12 386 yX12_ties ∈ gT := gU_7 138 rfl rfl
theorem cf_X12_ties : Cf yX12_ties cX12_ties 5 none 1 := ⟨gU_7 141 rfl rfl, gU_1 18 rfl rfl, by decide +kernel, by decide +kernel, by decide +kernel⟩
theorem wi_X12_ties : Cond.instanceMethod yX12_ties ∈ gT := gU_7 140 rfl rfl
theorem ws_X12_ties : Cond.selects yX12_ties.cls yX12_ties yX12_ties ∈ gT := gT_of 75 (by decide +kernel) (by decide +kernel)
theorem cf_X12_makes : Cf yX12_makes cX12_makes 8 (some .boolean) 1 := ⟨gU_7 133 rfl rfl, gU_1 18 rfl rfl, by decide +kernel, by decide +kernel, by decide +kernel⟩
theorem wi_X12_makes : Cond.instanceMethod yX12_makes ∈ gT := gU_7 132 rfl rfl
theorem ws_X12_makes : Cond.selects yX12_makes.cls yX12_makes yX12_makes ∈ gT := gT_of 73 (by decide +kernel) (by decide +kernel)
theorem wf_X12_396 : Cond.fieldLink RX12 396 "LawHolesModel" "after" "J" ∈ gT := gU_5 186 rfl rfl
theorem cf_X12_whyNot : Cf yX12_whyNot cX12_whyNot 8 (some .int) 4 := ⟨gU_7 125 rfl rfl, gU_1 18 rfl rfl, by decide +kernel, by decide +kernel, by decide +kernel⟩
theorem wi_X12_whyNot : Cond.instanceMethod yX12_whyNot ∈ gT := gU_7 124 rfl rfl
theorem ws_X12_whyNot : Cond.selects yX12_whyNot.cls yX12_whyNot yX12_whyNot ∈ gT := gT_of 71 (by decide +kernel) (by decide +kernel)
theorem cf_X12_goes : Cf yX12_goes cX12_goes 5 (some .int) 3 := ⟨gU_7 198 rfl rfl, gU_1 18 rfl rfl, by decide +kernel, by decide +kernel, by decide +kernel⟩
theorem wi_X12_goes : Cond.instanceMethod yX12_goes ∈ gT := gU_7 197 rfl rfl
theorem ws_X12_goes : Cond.selects yX12_goes.cls yX12_goes yX12_goes ∈ gT := gT_of 79 (by decide +kernel) (by decide +kernel)
theorem wm_X12_355 : Cond.methodLink RX12 355 yX12_reads ∈ gT := gU_7 58 rfl rfl
theorem cf_X12_reads : Cf yX12_reads cX12_reads 2 (some .boolean) 0 := ⟨gU_7 61 rfl rfl, gU_1 18 rfl rfl, by decide +kernel, by decide +kernel, by decide +kernel⟩
theorem wi_X12_reads : Cond.instanceMethod yX12_reads ∈ gT := gU_7 60 rfl rfl
theorem ws_X12_reads : Cond.selects yX12_reads.cls yX12_reads yX12_reads ∈ gT := gT_of 60 (by decide +kernel) (by decide +kernel)
theorem wm_X12_345 : Cond.methodLink RX12 345 yX12_keeps ∈ gT := gU_7 46 rfl rfl
theorem cf_X12_keeps : Cf yX12_keeps cX12_keeps 3 none 1 := ⟨gU_7 49 rfl rfl, gU_1 18 rfl rfl, by decide +kernel, by decide +kernel, by decide +kernel⟩
theorem wi_X12_keeps : Cond.instanceMethod yX12_keeps ∈ gT := gU_7 48 rfl rfl
theorem ws_X12_keeps : Cond.selects yX12_keeps.cls yX12_keeps yX12_keeps ∈ gT := gT_of 58 (by decide +kernel) (by decide +kernel)
theorem wl_X12_399 : Cond.constantLong RX12 399 1023 ∈ gT := gU_7 102 rfl rfl
theorem wf_X12_110 : Cond.fieldLink RX12 110 "LawHolesModel" "table" "[I" ∈ gT := gU_5 193 rfl rfl
theorem wf_X12_97 : Cond.fieldLink RX12 97 "LawHolesModel" "met" "[J" ∈ gT := gU_5 189 rfl rfl
theorem wm_X12_473 : Cond.methodLink RX12 473 yX12_renamedCode ∈ gT := gU_7 223 rfl rfl
theorem wm_X12_445 : Cond.methodLink RX12 445 yX12_renamed ∈ gT := gU_7 165 rfl rfl
theorem cf_X12_renamed : Cf yX12_renamed cX12_renamed 3 (some .int) 2 := ⟨gU_7 168 rfl rfl, gU_1 18 rfl rfl, by decide +kernel, by decide +kernel, by decide +kernel⟩
theorem wi_X12_renamed : Cond.instanceMethod yX12_renamed ∈ gT := gU_7 167 rfl rfl
theorem ws_X12_renamed : Cond.selects yX12_renamed.cls yX12_renamed yX12_renamed ∈ gT := gT_of 78 (by decide +kernel) (by decide +kernel)
theorem cf_X12_renamedCode : Cf yX12_renamedCode cX12_renamedCode 3 (some .int) 2 := ⟨gU_7 226 rfl rfl, gU_1 18 rfl rfl, by decide +kernel, by decide +kernel, by decide +kernel⟩
theorem wi_X12_renamedCode : Cond.instanceMethod yX12_renamedCode ∈ gT := gU_7 225 rfl rfl
theorem ws_X12_renamedCode : Cond.selects yX12_renamedCode.cls yX12_renamedCode yX12_renamedCode ∈ gT := gT_of 82 (by decide +kernel) (by decide +kernel)
theorem wm_X12_430 : Cond.methodLink RX12 430 yX12_isNeverText ∈ gT := gU_7 82 rfl rfl
theorem cf_X12_isNeverText : Cf yX12_isNeverText cX12_isNeverText 2 (some .boolean) 1 := ⟨gU_7 85 rfl rfl, gU_1 18 rfl rfl, by decide +kernel, by decide +kernel, by decide +kernel⟩
theorem wi_X12_isNeverText : Cond.instanceMethod yX12_isNeverText ∈ gT := gU_7 84 rfl rfl
theorem ws_X12_isNeverText : Cond.selects yX12_isNeverText.cls yX12_isNeverText yX12_isNeverText ∈ gT := gT_of 62 (by decide +kernel) (by decide +kernel)
theorem wm_X12_433 : Cond.methodLink RX12 433 yX12_canSearch ∈ gT := gU_7 86 rfl rfl
theorem cf_X12_canSearch : Cf yX12_canSearch cX12_canSearch 3 (some .boolean) 2 := ⟨gU_7 89 rfl rfl, gU_1 18 rfl rfl, by decide +kernel, by decide +kernel, by decide +kernel⟩
theorem wi_X12_canSearch : Cond.instanceMethod yX12_canSearch ∈ gT := gU_7 88 rfl rfl
theorem ws_X12_canSearch : Cond.selects yX12_canSearch.cls yX12_canSearch yX12_canSearch ∈ gT := gT_of 63 (by decide +kernel) (by decide +kernel)
theorem wm_X12_442 : Cond.methodLink RX12 442 yX12_bits ∈ gT := gU_7 150 rfl rfl
theorem cf_X12_bits : Cf yX12_bits cX12_bits 1 (some .int) 1 := ⟨gU_7 152 rfl rfl, gU_1 18 rfl rfl, by decide +kernel, by decide +kernel, by decide +kernel⟩
theorem ws_X12_bits : Cond.static yX12_bits ∈ gT := gU_7 151 rfl rfl
theorem wm_X12_436 : Cond.methodLink RX12 436 yX12_searches ∈ gT := gU_7 90 rfl rfl
theorem wf_X12_405 : Cond.fieldLink RX12 405 "LawHolesModel" "metMany" "I" ∈ gT := gU_5 195 rfl rfl
theorem wf_X12_113 : Cond.fieldLink RX12 113 "LawHolesModel" "tableAt" "[I" ∈ gT := gU_5 194 rfl rfl
theorem wf_X12_408 : Cond.fieldLink RX12 408 "LawHolesModel" "isSpent" "Z" ∈ gT := gU_5 197 rfl rfl
theorem wf_X12_411 : Cond.fieldLink RX12 411 "LawHolesModel" "found" "I" ∈ gT := gU_5 196 rfl rfl
theorem wm_X12_414 : Cond.methodLink RX12 414 yX12_meets ∈ gT := gU_7 94 rfl rfl
theorem wm_X12_401 : Cond.methodLink RX12 401 yX12_place ∈ gT := gU_7 98 rfl rfl
theorem cf_X12_place : Cf yX12_place cX12_place 4 (some .int) 1 := ⟨gU_7 101 rfl rfl, gU_1 18 rfl rfl, by decide +kernel, by decide +kernel, by decide +kernel⟩
theorem wi_X12_place : Cond.instanceMethod yX12_place ∈ gT := gU_7 100 rfl rfl
theorem ws_X12_place : Cond.selects yX12_place.cls yX12_place yX12_place ∈ gT := gT_of 66 (by decide +kernel) (by decide +kernel)
theorem cf_X12_meets : Cf yX12_meets cX12_meets 6 none 3 := ⟨gU_7 97 rfl rfl, gU_1 18 rfl rfl, by decide +kernel, by decide +kernel, by decide +kernel⟩
theorem wi_X12_meets : Cond.instanceMethod yX12_meets ∈ gT := gU_7 96 rfl rfl
theorem ws_X12_meets : Cond.selects yX12_meets.cls yX12_meets yX12_meets ∈ gT := gT_of 65 (by decide +kernel) (by decide +kernel)
theorem wm_X12_422 : Cond.methodLink RX12 422 yX12_goesOn ∈ gT := gU_7 118 rfl rfl
theorem wm_X12_418 : Cond.methodLink RX12 418 yX12_isNever ∈ gT := gU_7 103 rfl rfl
theorem cf_X12_isNever : Cf yX12_isNever cX12_isNever 4 (some .boolean) 2 := ⟨gU_7 106 rfl rfl, gU_1 18 rfl rfl, by decide +kernel, by decide +kernel, by decide +kernel⟩
theorem wi_X12_isNever : Cond.instanceMethod yX12_isNever ∈ gT := gU_7 105 rfl rfl
theorem ws_X12_isNever : Cond.selects yX12_isNever.cls yX12_isNever yX12_isNever ∈ gT := gT_of 67 (by decide +kernel) (by decide +kernel)
theorem cf_X12_goesOn : Cf yX12_goesOn cX12_goesOn 11 none 5 := ⟨gU_7 121 rfl rfl, gU_1 18 rfl rfl, by decide +kernel, by decide +kernel, by decide +kernel⟩
theorem wi_X12_goesOn : Cond.instanceMethod yX12_goesOn ∈ gT := gU_7 120 rfl rfl
theorem ws_X12_goesOn : Cond.selects yX12_goesOn.cls yX12_goesOn yX12_goesOn ∈ gT := gT_of 70 (by decide +kernel) (by decide +kernel)
theorem cf_X12_searches : Cf yX12_searches cX12_searches 7 none 5 := ⟨gU_7 93 rfl rfl, gU_1 18 rfl rfl, by decide +kernel, by decide +kernel, by decide +kernel⟩
theorem wi_X12_searches : Cond.instanceMethod yX12_searches ∈ gT := gU_7 92 rfl rfl
theorem ws_X12_searches : Cond.selects yX12_searches.cls yX12_searches yX12_searches ∈ gT := gT_of 64 (by decide +kernel) (by decide +kernel)
theorem wf_X12_69 : Cond.fieldLink RX12 69 "LawHolesModel" "nameLong" "[I" ∈ gT := gU_5 160 rfl rfl
theorem wf_X12_66 : Cond.fieldLink RX12 66 "LawHolesModel" "nameAt" "[I" ∈ gT := gU_5 159 rfl rfl
theorem wm_X12_342 : Cond.methodLink RX12 342 yX12_anAct ∈ gT := gU_6 218 rfl rfl
theorem wm_X12_324 : Cond.methodLink RX12 324 yX12_isKnown ∈ gT := gU_6 226 rfl rfl
theorem cf_X12_isKnown : Cf yX12_isKnown cX12_isKnown 5 (some .boolean) 1 := ⟨gU_6 229 rfl rfl, gU_1 18 rfl rfl, by decide +kernel, by decide +kernel, by decide +kernel⟩
theorem wi_X12_isKnown : Cond.instanceMethod yX12_isKnown ∈ gT := gU_6 228 rfl rfl
theorem ws_X12_isKnown : Cond.selects yX12_isKnown.cls yX12_isKnown yX12_isKnown ∈ gT := gT_of 43 (by decide +kernel) (by decide +kernel)
theorem wm_X12_330 : Cond.methodLink RX12 330 yX12_change ∈ gT := gU_7 38 rfl rfl
theorem wm_X12_318 : Cond.methodLink RX12 318 yX12_much ∈ gT := gU_7 42 rfl rfl
theorem cf_X12_much : Cf yX12_much cX12_much 2 (some .boolean) 1 := ⟨gU_7 45 rfl rfl, gU_1 18 rfl rfl, by decide +kernel, by decide +kernel, by decide +kernel⟩
theorem wi_X12_much : Cond.instanceMethod yX12_much ∈ gT := gU_7 44 rfl rfl
theorem ws_X12_much : Cond.selects yX12_much.cls yX12_much yX12_much ∈ gT := gT_of 57 (by decide +kernel) (by decide +kernel)
theorem cf_X12_change : Cf yX12_change cX12_change 3 (some .boolean) 1 := ⟨gU_7 41 rfl rfl, gU_1 18 rfl rfl, by decide +kernel, by decide +kernel, by decide +kernel⟩
theorem wi_X12_change : Cond.instanceMethod yX12_change ∈ gT := gU_7 40 rfl rfl
theorem ws_X12_change : Cond.selects yX12_change.cls yX12_change yX12_change ∈ gT := gT_of 56 (by decide +kernel) (by decide +kernel)
theorem cf_X12_anAct : Cf yX12_anAct cX12_anAct 4 (some .boolean) 0 := ⟨gU_6 221 rfl rfl, gU_1 18 rfl rfl, by decide +kernel, by decide +kernel, by decide +kernel⟩
theorem wi_X12_anAct : Cond.instanceMethod yX12_anAct ∈ gT := gU_6 220 rfl rfl
theorem ws_X12_anAct : Cond.selects yX12_anAct.cls yX12_anAct yX12_anAct ∈ gT := gT_of 41 (by decide +kernel) (by decide +kernel)
theorem wm_X12_349 : Cond.methodLink RX12 349 yX12_keepsAct ∈ gT := gU_7 50 rfl rfl
theorem cf_X12_keepsAct : Cf yX12_keepsAct cX12_keepsAct 4 none 2 := ⟨gU_7 53 rfl rfl, gU_1 18 rfl rfl, by decide +kernel, by decide +kernel, by decide +kernel⟩
theorem wi_X12_keepsAct : Cond.instanceMethod yX12_keepsAct ∈ gT := gU_7 52 rfl rfl
theorem ws_X12_keepsAct : Cond.selects yX12_keepsAct.cls yX12_keepsAct yX12_keepsAct ∈ gT := gT_of 59 (by decide +kernel) (by decide +kernel)
theorem wm_X12_467 : Cond.methodLink RX12 467 yX12_isHonestAll ∈ gT := gU_7 207 rfl rfl
theorem cf_X12_isHonestAll : Cf yX12_isHonestAll cX12_isHonestAll 4 (some .boolean) 1 := ⟨gU_7 210 rfl rfl, gU_1 18 rfl rfl, by decide +kernel, by decide +kernel, by decide +kernel⟩
theorem wi_X12_isHonestAll : Cond.instanceMethod yX12_isHonestAll ∈ gT := gU_7 209 rfl rfl
theorem ws_X12_isHonestAll : Cond.selects yX12_isHonestAll.cls yX12_isHonestAll yX12_isHonestAll ∈ gT := gT_of 80 (by decide +kernel) (by decide +kernel)
theorem wm_X12_448 : Cond.methodLink RX12 448 yX12_plainest ∈ gT := gU_7 161 rfl rfl
theorem wf_X12_119 : Cond.fieldLink RX12 119 "LawHolesModel" "keptCoin" "[I" ∈ gT := gU_5 199 rfl rfl
theorem wf_X12_125 : Cond.fieldLink RX12 125 "LawHolesModel" "keptOwner" "[I" ∈ gT := gU_5 201 rfl rfl
theorem wf_X12_122 : Cond.fieldLink RX12 122 "LawHolesModel" "keptDebt" "[I" ∈ gT := gU_5 200 rfl rfl
theorem wf_X12_128 : Cond.fieldLink RX12 128 "LawHolesModel" "keptWed" "[Z" ∈ gT := gU_5 202 rfl rfl
theorem wf_X12_131 : Cond.fieldLink RX12 131 "LawHolesModel" "keptChild" "[Z" ∈ gT := gU_5 203 rfl rfl
theorem cf_X12_plainest : Cf yX12_plainest cX12_plainest 9 (some .long) 1 := ⟨gU_7 164 rfl rfl, gU_1 18 rfl rfl, by decide +kernel, by decide +kernel, by decide +kernel⟩
theorem wi_X12_plainest : Cond.instanceMethod yX12_plainest ∈ gT := gU_7 163 rfl rfl
theorem ws_X12_plainest : Cond.selects yX12_plainest.cls yX12_plainest yX12_plainest ∈ gT := gT_of 77 (by decide +kernel) (by decide +kernel)
theorem wf_X12_134 : Cond.fieldLink RX12 134 "LawHolesModel" "plain" "[J" ∈ gT := gU_5 204 rfl rfl
theorem wm_X12_439 : Cond.methodLink RX12 439 yX12_codeOf ∈ gT := gU_7 142 rfl rfl
theorem cf_X12_codeOf : Cf yX12_codeOf cX12_codeOf 4 (some .int) 2 := ⟨gU_7 145 rfl rfl, gU_1 18 rfl rfl, by decide +kernel, by decide +kernel, by decide +kernel⟩
theorem wi_X12_codeOf : Cond.instanceMethod yX12_codeOf ∈ gT := gU_7 144 rfl rfl
theorem ws_X12_codeOf : Cond.selects yX12_codeOf.cls yX12_codeOf yX12_codeOf ∈ gT := gT_of 76 (by decide +kernel) (by decide +kernel)
theorem wm_X12_476 : Cond.methodLink RX12 476 yX12_endsAt ∈ gT := gU_7 219 rfl rfl
theorem cf_X12_endsAt : Cf yX12_endsAt cX12_endsAt 5 (some .int) 2 := ⟨gU_7 222 rfl rfl, gU_1 18 rfl rfl, by decide +kernel, by decide +kernel, by decide +kernel⟩
theorem wi_X12_endsAt : Cond.instanceMethod yX12_endsAt ∈ gT := gU_7 221 rfl rfl
theorem ws_X12_endsAt : Cond.selects yX12_endsAt.cls yX12_endsAt yX12_endsAt ∈ gT := gT_of 81 (by decide +kernel) (by decide +kernel)
theorem wf_J0_15 : Cond.fieldLink RJ0 15 "java/lang/String" "coder" "B" ∈ gT := gU_8 13 rfl rfl
theorem wf_J0_38 : Cond.fieldLink RJ0 38 "java/lang/String" "COMPACT_STRINGS" "Z" ∈ gT := gU_1 57 rfl rfl
theorem cf_J0_coder_7d493 : Cf yJ0_coder_7d493 cJ0_coder_7d493 1 (some .byte) 0 := ⟨gU_1 56 rfl rfl, gU_1 4 rfl rfl, by decide +kernel, by decide +kernel, by decide +kernel⟩
theorem wm_J0_335 : Cond.methodLink RJ0 335 yJ0_coder_7d493 ∈ gT := gU_1 53 rfl rfl
theorem wf_J0_9 : Cond.fieldLink RJ0 9 "java/lang/String" "value" "[B" ∈ gT := gU_8 12 rfl rfl
theorem ws_J0_coder_7d493 : Cond.selects yJ0_coder_7d493.cls yJ0_coder_7d493 yJ0_coder_7d493 ∈ gT := gU_1 55 rfl rfl
theorem wi_J0_coder_7d493 : Cond.instanceMethod yJ0_coder_7d493 ∈ gT := gU_1 54 rfl rfl
theorem cf_J3_checkIndex_8e157 : Cf yJ3_checkIndex_8e157 cJ3_checkIndex_8e157 3 (some .int) 3 := ⟨gU_1 77 rfl rfl, gU_1 6 rfl rfl, by decide +kernel, by decide +kernel, by decide +kernel⟩
theorem wm_J0_1059 : Cond.methodLink RJ0 1059 yJ3_checkIndex_8e157 ∈ gT := gU_1 75 rfl rfl
theorem wf_J0_1053 : Cond.fieldLink RJ0 1053 "jdk/internal/util/Preconditions" "SIOOBE_FORMATTER" "Ljava/util/function/BiFunction;" ∈ gT := gU_1 73 rfl rfl
theorem ws_J3_checkIndex_8e157 : Cond.static yJ3_checkIndex_8e157 ∈ gT := gU_1 76 rfl rfl
theorem cf_J0_checkIndex_df160 : Cf yJ0_checkIndex_df160 cJ0_checkIndex_df160 2 none 2 := ⟨gU_1 72 rfl rfl, gU_1 4 rfl rfl, by decide +kernel, by decide +kernel, by decide +kernel⟩
theorem wm_J1_9 : Cond.methodLink RJ1 9 yJ0_checkIndex_df160 ∈ gT := gU_1 70 rfl rfl
theorem ws_J0_checkIndex_df160 : Cond.static yJ0_checkIndex_df160 ∈ gT := gU_1 71 rfl rfl
theorem cf_J0_isLatin1_aae02 : Cf yJ0_isLatin1_aae02 cJ0_isLatin1_aae02 1 (some .boolean) 0 := ⟨gU_1 66 rfl rfl, gU_1 4 rfl rfl, by decide +kernel, by decide +kernel, by decide +kernel⟩
theorem cf_J1_charAt_3b067 : Cf yJ1_charAt_3b067 cJ1_charAt_3b067 2 (some .char) 2 := ⟨gU_1 69 rfl rfl, gU_1 5 rfl rfl, by decide +kernel, by decide +kernel, by decide +kernel⟩
theorem wm_J0_492 : Cond.methodLink RJ0 492 yJ0_isLatin1_aae02 ∈ gT := gU_1 63 rfl rfl
theorem wm_J0_495 : Cond.methodLink RJ0 495 yJ1_charAt_3b067 ∈ gT := gU_1 67 rfl rfl
theorem ws_J0_isLatin1_aae02 : Cond.selects yJ0_isLatin1_aae02.cls yJ0_isLatin1_aae02 yJ0_isLatin1_aae02 ∈ gT := gU_1 65 rfl rfl
theorem ws_J1_charAt_3b067 : Cond.static yJ1_charAt_3b067 ∈ gT := gU_1 68 rfl rfl
theorem wi_J0_isLatin1_aae02 : Cond.instanceMethod yJ0_isLatin1_aae02 ∈ gT := gU_1 64 rfl rfl
theorem dJ0_charAt_5068e_0 : decode cJ0_charAt_5068e 0 = .ok (.aload_n 0, 1) := by decide +kernel
theorem dJ0_charAt_5068e_1 : decode cJ0_charAt_5068e 1 = .ok (.invokevirtual 492, 3) := by decide +kernel
theorem dJ0_charAt_5068e_4 : decode cJ0_charAt_5068e 4 = .ok (.ifCond .eq 12, 3) := by decide +kernel
theorem dJ0_charAt_5068e_7 : decode cJ0_charAt_5068e 7 = .ok (.aload_n 0, 1) := by decide +kernel
theorem dJ0_charAt_5068e_8 : decode cJ0_charAt_5068e 8 = .ok (.getfield 9, 3) := by decide +kernel
theorem dJ0_charAt_5068e_11 : decode cJ0_charAt_5068e 11 = .ok (.iload_n 1, 1) := by decide +kernel
theorem dJ0_charAt_5068e_12 : decode cJ0_charAt_5068e 12 = .ok (.invokestatic 495, 3) := by decide +kernel
theorem dJ0_charAt_5068e_15 : decode cJ0_charAt_5068e 15 = .ok (.ireturn, 1) := by decide +kernel
theorem dJ0_charAt_5068e_16 : decode cJ0_charAt_5068e 16 = .ok (.aload_n 0, 1) := by decide +kernel
theorem dJ0_charAt_5068e_17 : decode cJ0_charAt_5068e 17 = .ok (.getfield 9, 3) := by decide +kernel
theorem dJ0_charAt_5068e_20 : decode cJ0_charAt_5068e 20 = .ok (.iload_n 1, 1) := by decide +kernel
theorem dJ0_charAt_5068e_21 : decode cJ0_charAt_5068e 21 = .ok (.invokestatic 498, 3) := by decide +kernel
theorem dJ0_charAt_5068e_24 : decode cJ0_charAt_5068e 24 = .ok (.ireturn, 1) := by decide +kernel
theorem dJ0_checkIndex_df160_0 : decode cJ0_checkIndex_df160 0 = .ok (.iload_n 0, 1) := by decide +kernel
theorem dJ0_checkIndex_df160_1 : decode cJ0_checkIndex_df160 1 = .ok (.iload_n 1, 1) := by decide +kernel
theorem dJ0_checkIndex_df160_2 : decode cJ0_checkIndex_df160 2 = .ok (.getstatic 1053, 3) := by decide +kernel
theorem dJ0_checkIndex_df160_5 : decode cJ0_checkIndex_df160 5 = .ok (.invokestatic 1059, 3) := by decide +kernel
theorem dJ0_checkIndex_df160_8 : decode cJ0_checkIndex_df160 8 = .ok (.pop, 1) := by decide +kernel
theorem dJ0_checkIndex_df160_9 : decode cJ0_checkIndex_df160 9 = .ok (.return_, 1) := by decide +kernel
theorem dJ0_coder_7d493_0 : decode cJ0_coder_7d493 0 = .ok (.getstatic 38, 3) := by decide +kernel
theorem dJ0_coder_7d493_3 : decode cJ0_coder_7d493 3 = .ok (.ifCond .eq 10, 3) := by decide +kernel
theorem dJ0_coder_7d493_6 : decode cJ0_coder_7d493 6 = .ok (.aload_n 0, 1) := by decide +kernel
theorem dJ0_coder_7d493_7 : decode cJ0_coder_7d493 7 = .ok (.getfield 15, 3) := by decide +kernel
theorem dJ0_coder_7d493_10 : decode cJ0_coder_7d493 10 = .ok (.goto 4, 3) := by decide +kernel
theorem dJ0_coder_7d493_13 : decode cJ0_coder_7d493 13 = .ok (.iconst 1, 1) := by decide +kernel
theorem dJ0_coder_7d493_14 : decode cJ0_coder_7d493 14 = .ok (.ireturn, 1) := by decide +kernel
theorem dJ0_isLatin1_aae02_0 : decode cJ0_isLatin1_aae02 0 = .ok (.getstatic 38, 3) := by decide +kernel
theorem dJ0_isLatin1_aae02_3 : decode cJ0_isLatin1_aae02 3 = .ok (.ifCond .eq 14, 3) := by decide +kernel
theorem dJ0_isLatin1_aae02_6 : decode cJ0_isLatin1_aae02 6 = .ok (.aload_n 0, 1) := by decide +kernel
theorem dJ0_isLatin1_aae02_7 : decode cJ0_isLatin1_aae02 7 = .ok (.getfield 15, 3) := by decide +kernel
theorem dJ0_isLatin1_aae02_10 : decode cJ0_isLatin1_aae02 10 = .ok (.ifCond .ne 7, 3) := by decide +kernel
theorem dJ0_isLatin1_aae02_13 : decode cJ0_isLatin1_aae02 13 = .ok (.iconst 1, 1) := by decide +kernel
theorem dJ0_isLatin1_aae02_14 : decode cJ0_isLatin1_aae02 14 = .ok (.goto 4, 3) := by decide +kernel
theorem dJ0_isLatin1_aae02_17 : decode cJ0_isLatin1_aae02 17 = .ok (.iconst 0, 1) := by decide +kernel
theorem dJ0_isLatin1_aae02_18 : decode cJ0_isLatin1_aae02 18 = .ok (.ireturn, 1) := by decide +kernel
theorem dJ0_length_8abf5_0 : decode cJ0_length_8abf5 0 = .ok (.aload_n 0, 1) := by decide +kernel
theorem dJ0_length_8abf5_1 : decode cJ0_length_8abf5 1 = .ok (.getfield 9, 3) := by decide +kernel
theorem dJ0_length_8abf5_4 : decode cJ0_length_8abf5 4 = .ok (.arraylength, 1) := by decide +kernel
theorem dJ0_length_8abf5_5 : decode cJ0_length_8abf5 5 = .ok (.aload_n 0, 1) := by decide +kernel
theorem dJ0_length_8abf5_6 : decode cJ0_length_8abf5 6 = .ok (.invokevirtual 335, 3) := by decide +kernel
theorem dJ0_length_8abf5_9 : decode cJ0_length_8abf5 9 = .ok (.ishr, 1) := by decide +kernel
theorem dJ0_length_8abf5_10 : decode cJ0_length_8abf5 10 = .ok (.ireturn, 1) := by decide +kernel
theorem dJ1_charAt_3b067_0 : decode cJ1_charAt_3b067 0 = .ok (.iload_n 1, 1) := by decide +kernel
theorem dJ1_charAt_3b067_1 : decode cJ1_charAt_3b067 1 = .ok (.aload_n 0, 1) := by decide +kernel
theorem dJ1_charAt_3b067_2 : decode cJ1_charAt_3b067 2 = .ok (.arraylength, 1) := by decide +kernel
theorem dJ1_charAt_3b067_3 : decode cJ1_charAt_3b067 3 = .ok (.invokestatic 9, 3) := by decide +kernel
theorem dJ1_charAt_3b067_6 : decode cJ1_charAt_3b067 6 = .ok (.aload_n 0, 1) := by decide +kernel
theorem dJ1_charAt_3b067_7 : decode cJ1_charAt_3b067 7 = .ok (.iload_n 1, 1) := by decide +kernel
theorem dJ1_charAt_3b067_8 : decode cJ1_charAt_3b067 8 = .ok (.baload, 1) := by decide +kernel
theorem dJ1_charAt_3b067_9 : decode cJ1_charAt_3b067 9 = .ok (.sipush 255, 3) := by decide +kernel
theorem dJ1_charAt_3b067_12 : decode cJ1_charAt_3b067 12 = .ok (.iand, 1) := by decide +kernel
theorem dJ1_charAt_3b067_13 : decode cJ1_charAt_3b067 13 = .ok (.i2c, 1) := by decide +kernel
theorem dJ1_charAt_3b067_14 : decode cJ1_charAt_3b067 14 = .ok (.ireturn, 1) := by decide +kernel
theorem dJ3_checkIndex_8e157_0 : decode cJ3_checkIndex_8e157 0 = .ok (.iload_n 0, 1) := by decide +kernel
theorem dJ3_checkIndex_8e157_1 : decode cJ3_checkIndex_8e157 1 = .ok (.ifCond .lt 8, 3) := by decide +kernel
theorem dJ3_checkIndex_8e157_4 : decode cJ3_checkIndex_8e157 4 = .ok (.iload_n 0, 1) := by decide +kernel
theorem dJ3_checkIndex_8e157_5 : decode cJ3_checkIndex_8e157 5 = .ok (.iload_n 1, 1) := by decide +kernel
theorem dJ3_checkIndex_8e157_6 : decode cJ3_checkIndex_8e157 6 = .ok (.if_icmp .lt 10, 3) := by decide +kernel
theorem dJ3_checkIndex_8e157_9 : decode cJ3_checkIndex_8e157 9 = .ok (.aload_n 2, 1) := by decide +kernel
theorem dJ3_checkIndex_8e157_10 : decode cJ3_checkIndex_8e157 10 = .ok (.iload_n 0, 1) := by decide +kernel
theorem dJ3_checkIndex_8e157_11 : decode cJ3_checkIndex_8e157 11 = .ok (.iload_n 1, 1) := by decide +kernel
theorem dJ3_checkIndex_8e157_12 : decode cJ3_checkIndex_8e157 12 = .ok (.invokestatic 95, 3) := by decide +kernel
theorem dJ3_checkIndex_8e157_15 : decode cJ3_checkIndex_8e157 15 = .ok (.athrow, 1) := by decide +kernel
theorem dJ3_checkIndex_8e157_16 : decode cJ3_checkIndex_8e157 16 = .ok (.iload_n 0, 1) := by decide +kernel
theorem dJ3_checkIndex_8e157_17 : decode cJ3_checkIndex_8e157 17 = .ok (.ireturn, 1) := by decide +kernel
theorem dX12_act_0 : decode cX12_act 0 = .ok (.aload_n 0, 1) := by decide +kernel
theorem dX12_act_1 : decode cX12_act 1 = .ok (.iload_n 1, 1) := by decide +kernel
theorem dX12_act_2 : decode cX12_act 2 = .ok (.invokevirtual 361, 3) := by decide +kernel
theorem dX12_act_5 : decode cX12_act 5 = .ok (.ifCond .ne 5, 3) := by decide +kernel
theorem dX12_act_8 : decode cX12_act 8 = .ok (.iconst (-1), 1) := by decide +kernel
theorem dX12_act_9 : decode cX12_act 9 = .ok (.ireturn, 1) := by decide +kernel
theorem dX12_act_10 : decode cX12_act 10 = .ok (.iload_n 2, 1) := by decide +kernel
theorem dX12_act_11 : decode cX12_act 11 = .ok (.tableswitch 73 0 3 #[29, 44, 59, 66], 29) := by decide +kernel
theorem dX12_act_40 : decode cX12_act 40 = .ok (.aload_n 0, 1) := by decide +kernel
theorem dX12_act_41 : decode cX12_act 41 = .ok (.getfield 72, 3) := by decide +kernel
theorem dX12_act_44 : decode cX12_act 44 = .ok (.iload_n 1, 1) := by decide +kernel
theorem dX12_act_45 : decode cX12_act 45 = .ok (.baload, 1) := by decide +kernel
theorem dX12_act_46 : decode cX12_act 46 = .ok (.ifCond .eq 7, 3) := by decide +kernel
theorem dX12_act_49 : decode cX12_act 49 = .ok (.iconst 1, 1) := by decide +kernel
theorem dX12_act_50 : decode cX12_act 50 = .ok (.goto 4, 3) := by decide +kernel
theorem dX12_act_53 : decode cX12_act 53 = .ok (.iconst 0, 1) := by decide +kernel
theorem dX12_act_54 : decode cX12_act 54 = .ok (.ireturn, 1) := by decide +kernel
theorem dX12_act_55 : decode cX12_act 55 = .ok (.aload_n 0, 1) := by decide +kernel
theorem dX12_act_56 : decode cX12_act 56 = .ok (.getfield 75, 3) := by decide +kernel
theorem dX12_act_59 : decode cX12_act 59 = .ok (.iload_n 1, 1) := by decide +kernel
theorem dX12_act_60 : decode cX12_act 60 = .ok (.baload, 1) := by decide +kernel
theorem dX12_act_61 : decode cX12_act 61 = .ok (.ifCond .eq 7, 3) := by decide +kernel
theorem dX12_act_64 : decode cX12_act 64 = .ok (.iconst 1, 1) := by decide +kernel
theorem dX12_act_65 : decode cX12_act 65 = .ok (.goto 4, 3) := by decide +kernel
theorem dX12_act_68 : decode cX12_act 68 = .ok (.iconst 0, 1) := by decide +kernel
theorem dX12_act_69 : decode cX12_act 69 = .ok (.ireturn, 1) := by decide +kernel
theorem dX12_act_70 : decode cX12_act 70 = .ok (.aload_n 0, 1) := by decide +kernel
theorem dX12_act_71 : decode cX12_act 71 = .ok (.getfield 39, 3) := by decide +kernel
theorem dX12_act_74 : decode cX12_act 74 = .ok (.iload_n 1, 1) := by decide +kernel
theorem dX12_act_75 : decode cX12_act 75 = .ok (.iaload, 1) := by decide +kernel
theorem dX12_act_76 : decode cX12_act 76 = .ok (.ireturn, 1) := by decide +kernel
theorem dX12_act_77 : decode cX12_act 77 = .ok (.aload_n 0, 1) := by decide +kernel
theorem dX12_act_78 : decode cX12_act 78 = .ok (.getfield 42, 3) := by decide +kernel
theorem dX12_act_81 : decode cX12_act 81 = .ok (.iload_n 1, 1) := by decide +kernel
theorem dX12_act_82 : decode cX12_act 82 = .ok (.iaload, 1) := by decide +kernel
theorem dX12_act_83 : decode cX12_act 83 = .ok (.ireturn, 1) := by decide +kernel
theorem dX12_act_84 : decode cX12_act 84 = .ok (.iconst (-1), 1) := by decide +kernel
theorem dX12_act_85 : decode cX12_act 85 = .ok (.ireturn, 1) := by decide +kernel
theorem dX12_after_0 : decode cX12_after 0 = .ok (.iload_n 1, 1) := by decide +kernel
theorem dX12_after_1 : decode cX12_after 1 = .ok (.invokestatic 452, 3) := by decide +kernel
theorem dX12_after_4 : decode cX12_after 4 = .ok (.ifCond .ne 5, 3) := by decide +kernel
theorem dX12_after_7 : decode cX12_after 7 = .ok (.iconst (-1), 1) := by decide +kernel
theorem dX12_after_8 : decode cX12_after 8 = .ok (.ireturn, 1) := by decide +kernel
theorem dX12_after_9 : decode cX12_after 9 = .ok (.aload_n 0, 1) := by decide +kernel
theorem dX12_after_10 : decode cX12_after 10 = .ok (.iload_n 1, 1) := by decide +kernel
theorem dX12_after_11 : decode cX12_after 11 = .ok (.iconst 3, 1) := by decide +kernel
theorem dX12_after_12 : decode cX12_after 12 = .ok (.iconst 0, 1) := by decide +kernel
theorem dX12_after_13 : decode cX12_after 13 = .ok (.invokevirtual 464, 3) := by decide +kernel
theorem dX12_after_16 : decode cX12_after 16 = .ok (.pop, 1) := by decide +kernel
theorem dX12_after_17 : decode cX12_after 17 = .ok (.aload_n 0, 1) := by decide +kernel
theorem dX12_after_18 : decode cX12_after 18 = .ok (.aload_n 0, 1) := by decide +kernel
theorem dX12_after_19 : decode cX12_after 19 = .ok (.getfield 458, 3) := by decide +kernel
theorem dX12_after_22 : decode cX12_after 22 = .ok (.invokevirtual 174, 3) := by decide +kernel
theorem dX12_after_25 : decode cX12_after 25 = .ok (.iload_n 2, 1) := by decide +kernel
theorem dX12_after_26 : decode cX12_after 26 = .ok (.invokestatic 170, 3) := by decide +kernel
theorem dX12_after_29 : decode cX12_after 29 = .ok (.ifCond .eq 10, 3) := by decide +kernel
theorem dX12_after_32 : decode cX12_after 32 = .ok (.aload_n 0, 1) := by decide +kernel
theorem dX12_after_33 : decode cX12_after 33 = .ok (.getfield 13, 3) := by decide +kernel
theorem dX12_after_36 : decode cX12_after 36 = .ok (.iload_n 2, 1) := by decide +kernel
theorem dX12_after_37 : decode cX12_after 37 = .ok (.iaload, 1) := by decide +kernel
theorem dX12_after_38 : decode cX12_after 38 = .ok (.ireturn, 1) := by decide +kernel
theorem dX12_after_39 : decode cX12_after 39 = .ok (.iload_n 2, 1) := by decide +kernel
theorem dX12_after_40 : decode cX12_after 40 = .ok (.bipush 50, 2) := by decide +kernel
theorem dX12_after_42 : decode cX12_after 42 = .ok (.if_icmp .ne 8, 3) := by decide +kernel
theorem dX12_after_45 : decode cX12_after 45 = .ok (.aload_n 0, 1) := by decide +kernel
theorem dX12_after_46 : decode cX12_after 46 = .ok (.getfield 157, 3) := by decide +kernel
theorem dX12_after_49 : decode cX12_after 49 = .ok (.ireturn, 1) := by decide +kernel
theorem dX12_after_50 : decode cX12_after 50 = .ok (.iload_n 2, 1) := by decide +kernel
theorem dX12_after_51 : decode cX12_after 51 = .ok (.bipush 40, 2) := by decide +kernel
theorem dX12_after_53 : decode cX12_after 53 = .ok (.bipush 42, 2) := by decide +kernel
theorem dX12_after_55 : decode cX12_after 55 = .ok (.invokestatic 1, 3) := by decide +kernel
theorem dX12_after_58 : decode cX12_after 58 = .ok (.ifCond .eq 13, 3) := by decide +kernel
theorem dX12_after_61 : decode cX12_after 61 = .ok (.aload_n 0, 1) := by decide +kernel
theorem dX12_after_62 : decode cX12_after 62 = .ok (.getfield 20, 3) := by decide +kernel
theorem dX12_after_65 : decode cX12_after 65 = .ok (.iload_n 2, 1) := by decide +kernel
theorem dX12_after_66 : decode cX12_after 66 = .ok (.bipush 40, 2) := by decide +kernel
theorem dX12_after_68 : decode cX12_after 68 = .ok (.isub, 1) := by decide +kernel
theorem dX12_after_69 : decode cX12_after 69 = .ok (.iaload, 1) := by decide +kernel
theorem dX12_after_70 : decode cX12_after 70 = .ok (.ireturn, 1) := by decide +kernel
theorem dX12_after_71 : decode cX12_after 71 = .ok (.iload_n 2, 1) := by decide +kernel
theorem dX12_after_72 : decode cX12_after 72 = .ok (.bipush 10, 2) := by decide +kernel
theorem dX12_after_74 : decode cX12_after 74 = .ok (.irem, 1) := by decide +kernel
theorem dX12_after_75 : decode cX12_after 75 = .ok (.istore_n 3, 1) := by decide +kernel
theorem dX12_after_76 : decode cX12_after 76 = .ok (.iload_n 2, 1) := by decide +kernel
theorem dX12_after_77 : decode cX12_after 77 = .ok (.bipush 10, 2) := by decide +kernel
theorem dX12_after_79 : decode cX12_after 79 = .ok (.bipush 38, 2) := by decide +kernel
theorem dX12_after_81 : decode cX12_after 81 = .ok (.invokestatic 1, 3) := by decide +kernel
theorem dX12_after_84 : decode cX12_after 84 = .ok (.ifCond .eq 18, 3) := by decide +kernel
theorem dX12_after_87 : decode cX12_after 87 = .ok (.iload_n 3, 1) := by decide +kernel
theorem dX12_after_88 : decode cX12_after 88 = .ok (.bipush 9, 2) := by decide +kernel
theorem dX12_after_90 : decode cX12_after 90 = .ok (.if_icmp .eq 12, 3) := by decide +kernel
theorem dX12_after_93 : decode cX12_after 93 = .ok (.iload_n 3, 1) := by decide +kernel
theorem dX12_after_94 : decode cX12_after 94 = .ok (.iconst 3, 1) := by decide +kernel
theorem dX12_after_95 : decode cX12_after 95 = .ok (.idiv, 1) := by decide +kernel
theorem dX12_after_96 : decode cX12_after 96 = .ok (.iload_n 3, 1) := by decide +kernel
theorem dX12_after_97 : decode cX12_after 97 = .ok (.iconst 3, 1) := by decide +kernel
theorem dX12_after_98 : decode cX12_after 98 = .ok (.irem, 1) := by decide +kernel
theorem dX12_after_99 : decode cX12_after 99 = .ok (.if_icmp .ne 5, 3) := by decide +kernel
theorem dX12_after_102 : decode cX12_after 102 = .ok (.iconst (-1), 1) := by decide +kernel
theorem dX12_after_103 : decode cX12_after 103 = .ok (.ireturn, 1) := by decide +kernel
theorem dX12_after_104 : decode cX12_after 104 = .ok (.iload_n 2, 1) := by decide +kernel
theorem dX12_after_105 : decode cX12_after 105 = .ok (.bipush 20, 2) := by decide +kernel
theorem dX12_after_107 : decode cX12_after 107 = .ok (.if_icmp .ge 12, 3) := by decide +kernel
theorem dX12_after_110 : decode cX12_after 110 = .ok (.aload_n 0, 1) := by decide +kernel
theorem dX12_after_111 : decode cX12_after 111 = .ok (.getfield 17, 3) := by decide +kernel
theorem dX12_after_114 : decode cX12_after 114 = .ok (.iload_n 3, 1) := by decide +kernel
theorem dX12_after_115 : decode cX12_after 115 = .ok (.iaload, 1) := by decide +kernel
theorem dX12_after_116 : decode cX12_after 116 = .ok (.goto 35, 3) := by decide +kernel
theorem dX12_after_119 : decode cX12_after 119 = .ok (.iload_n 2, 1) := by decide +kernel
theorem dX12_after_120 : decode cX12_after 120 = .ok (.bipush 30, 2) := by decide +kernel
theorem dX12_after_122 : decode cX12_after 122 = .ok (.if_icmp .ge 15, 3) := by decide +kernel
theorem dX12_after_125 : decode cX12_after 125 = .ok (.aload_n 0, 1) := by decide +kernel
theorem dX12_after_126 : decode cX12_after 126 = .ok (.getfield 23, 3) := by decide +kernel
theorem dX12_after_129 : decode cX12_after 129 = .ok (.iload_n 3, 1) := by decide +kernel
theorem dX12_after_130 : decode cX12_after 130 = .ok (.baload, 1) := by decide +kernel
theorem dX12_after_131 : decode cX12_after 131 = .ok (.ifCond .eq 19, 3) := by decide +kernel
theorem dX12_after_134 : decode cX12_after 134 = .ok (.goto 12, 3) := by decide +kernel
theorem dX12_after_137 : decode cX12_after 137 = .ok (.aload_n 0, 1) := by decide +kernel
theorem dX12_after_138 : decode cX12_after 138 = .ok (.getfield 27, 3) := by decide +kernel
theorem dX12_after_141 : decode cX12_after 141 = .ok (.iload_n 3, 1) := by decide +kernel
theorem dX12_after_142 : decode cX12_after 142 = .ok (.baload, 1) := by decide +kernel
theorem dX12_after_143 : decode cX12_after 143 = .ok (.ifCond .eq 7, 3) := by decide +kernel
theorem dX12_after_146 : decode cX12_after 146 = .ok (.iconst 1, 1) := by decide +kernel
theorem dX12_after_147 : decode cX12_after 147 = .ok (.goto 4, 3) := by decide +kernel
theorem dX12_after_150 : decode cX12_after 150 = .ok (.iconst 0, 1) := by decide +kernel
theorem dX12_after_151 : decode cX12_after 151 = .ok (.ireturn, 1) := by decide +kernel
theorem dX12_anAct_0 : decode cX12_anAct 0 = .ok (.aload_n 0, 1) := by decide +kernel
theorem dX12_anAct_1 : decode cX12_anAct 1 = .ok (.getfield 242, 3) := by decide +kernel
theorem dX12_anAct_4 : decode cX12_anAct 4 = .ok (.sipush 301, 3) := by decide +kernel
theorem dX12_anAct_7 : decode cX12_anAct 7 = .ok (.if_icmp .eq 9, 3) := by decide +kernel
theorem dX12_anAct_10 : decode cX12_anAct 10 = .ok (.aload_n 0, 1) := by decide +kernel
theorem dX12_anAct_11 : decode cX12_anAct 11 = .ok (.iconst 1, 1) := by decide +kernel
theorem dX12_anAct_12 : decode cX12_anAct 12 = .ok (.invokevirtual 263, 3) := by decide +kernel
theorem dX12_anAct_15 : decode cX12_anAct 15 = .ok (.ireturn, 1) := by decide +kernel
theorem dX12_anAct_16 : decode cX12_anAct 16 = .ok (.aload_n 0, 1) := by decide +kernel
theorem dX12_anAct_17 : decode cX12_anAct 17 = .ok (.getfield 321, 3) := by decide +kernel
theorem dX12_anAct_20 : decode cX12_anAct 20 = .ok (.bipush 6, 2) := by decide +kernel
theorem dX12_anAct_22 : decode cX12_anAct 22 = .ok (.if_icmp .ne 9, 3) := by decide +kernel
theorem dX12_anAct_25 : decode cX12_anAct 25 = .ok (.aload_n 0, 1) := by decide +kernel
theorem dX12_anAct_26 : decode cX12_anAct 26 = .ok (.iconst 3, 1) := by decide +kernel
theorem dX12_anAct_27 : decode cX12_anAct 27 = .ok (.invokevirtual 263, 3) := by decide +kernel
theorem dX12_anAct_30 : decode cX12_anAct 30 = .ok (.ireturn, 1) := by decide +kernel
theorem dX12_anAct_31 : decode cX12_anAct 31 = .ok (.bipush 12, 2) := by decide +kernel
theorem dX12_anAct_33 : decode cX12_anAct 33 = .ok (.aload_n 0, 1) := by decide +kernel
theorem dX12_anAct_34 : decode cX12_anAct 34 = .ok (.getfield 321, 3) := by decide +kernel
theorem dX12_anAct_37 : decode cX12_anAct 37 = .ok (.iadd, 1) := by decide +kernel
theorem dX12_anAct_38 : decode cX12_anAct 38 = .ok (.istore_n 1, 1) := by decide +kernel
theorem dX12_anAct_39 : decode cX12_anAct 39 = .ok (.aload_n 0, 1) := by decide +kernel
theorem dX12_anAct_40 : decode cX12_anAct 40 = .ok (.invokevirtual 266, 3) := by decide +kernel
theorem dX12_anAct_43 : decode cX12_anAct 43 = .ok (.aload_n 0, 1) := by decide +kernel
theorem dX12_anAct_44 : decode cX12_anAct 44 = .ok (.getfield 242, 3) := by decide +kernel
theorem dX12_anAct_47 : decode cX12_anAct 47 = .ok (.iconst 3, 1) := by decide +kernel
theorem dX12_anAct_48 : decode cX12_anAct 48 = .ok (.if_icmp .eq 9, 3) := by decide +kernel
theorem dX12_anAct_51 : decode cX12_anAct 51 = .ok (.aload_n 0, 1) := by decide +kernel
theorem dX12_anAct_52 : decode cX12_anAct 52 = .ok (.iconst 1, 1) := by decide +kernel
theorem dX12_anAct_53 : decode cX12_anAct 53 = .ok (.invokevirtual 263, 3) := by decide +kernel
theorem dX12_anAct_56 : decode cX12_anAct 56 = .ok (.ireturn, 1) := by decide +kernel
theorem dX12_anAct_57 : decode cX12_anAct 57 = .ok (.aload_n 0, 1) := by decide +kernel
theorem dX12_anAct_58 : decode cX12_anAct 58 = .ok (.iload_n 1, 1) := by decide +kernel
theorem dX12_anAct_59 : decode cX12_anAct 59 = .ok (.invokevirtual 324, 3) := by decide +kernel
theorem dX12_anAct_62 : decode cX12_anAct 62 = .ok (.ifCond .eq 9, 3) := by decide +kernel
theorem dX12_anAct_65 : decode cX12_anAct 65 = .ok (.aload_n 0, 1) := by decide +kernel
theorem dX12_anAct_66 : decode cX12_anAct 66 = .ok (.iconst 2, 1) := by decide +kernel
theorem dX12_anAct_67 : decode cX12_anAct 67 = .ok (.invokevirtual 263, 3) := by decide +kernel
theorem dX12_anAct_70 : decode cX12_anAct 70 = .ok (.ireturn, 1) := by decide +kernel
theorem dX12_anAct_71 : decode cX12_anAct 71 = .ok (.aload_n 0, 1) := by decide +kernel
theorem dX12_anAct_72 : decode cX12_anAct 72 = .ok (.getfield 66, 3) := by decide +kernel
theorem dX12_anAct_75 : decode cX12_anAct 75 = .ok (.iload_n 1, 1) := by decide +kernel
theorem dX12_anAct_76 : decode cX12_anAct 76 = .ok (.aload_n 0, 1) := by decide +kernel
theorem dX12_anAct_77 : decode cX12_anAct 77 = .ok (.getfield 188, 3) := by decide +kernel
theorem dX12_anAct_80 : decode cX12_anAct 80 = .ok (.iastore, 1) := by decide +kernel
theorem dX12_anAct_81 : decode cX12_anAct 81 = .ok (.aload_n 0, 1) := by decide +kernel
theorem dX12_anAct_82 : decode cX12_anAct 82 = .ok (.getfield 69, 3) := by decide +kernel
theorem dX12_anAct_85 : decode cX12_anAct 85 = .ok (.iload_n 1, 1) := by decide +kernel
theorem dX12_anAct_86 : decode cX12_anAct 86 = .ok (.aload_n 0, 1) := by decide +kernel
theorem dX12_anAct_87 : decode cX12_anAct 87 = .ok (.getfield 185, 3) := by decide +kernel
theorem dX12_anAct_90 : decode cX12_anAct 90 = .ok (.aload_n 0, 1) := by decide +kernel
theorem dX12_anAct_91 : decode cX12_anAct 91 = .ok (.getfield 188, 3) := by decide +kernel
theorem dX12_anAct_94 : decode cX12_anAct 94 = .ok (.isub, 1) := by decide +kernel
theorem dX12_anAct_95 : decode cX12_anAct 95 = .ok (.iastore, 1) := by decide +kernel
theorem dX12_anAct_96 : decode cX12_anAct 96 = .ok (.aload_n 0, 1) := by decide +kernel
theorem dX12_anAct_97 : decode cX12_anAct 97 = .ok (.getfield 39, 3) := by decide +kernel
theorem dX12_anAct_100 : decode cX12_anAct 100 = .ok (.iload_n 1, 1) := by decide +kernel
theorem dX12_anAct_101 : decode cX12_anAct 101 = .ok (.iconst 0, 1) := by decide +kernel
theorem dX12_anAct_102 : decode cX12_anAct 102 = .ok (.iastore, 1) := by decide +kernel
theorem dX12_anAct_103 : decode cX12_anAct 103 = .ok (.aload_n 0, 1) := by decide +kernel
theorem dX12_anAct_104 : decode cX12_anAct 104 = .ok (.getfield 42, 3) := by decide +kernel
theorem dX12_anAct_107 : decode cX12_anAct 107 = .ok (.iload_n 1, 1) := by decide +kernel
theorem dX12_anAct_108 : decode cX12_anAct 108 = .ok (.iconst 0, 1) := by decide +kernel
theorem dX12_anAct_109 : decode cX12_anAct 109 = .ok (.iastore, 1) := by decide +kernel
theorem dX12_anAct_110 : decode cX12_anAct 110 = .ok (.aload_n 0, 1) := by decide +kernel
theorem dX12_anAct_111 : decode cX12_anAct 111 = .ok (.iconst 0, 1) := by decide +kernel
theorem dX12_anAct_112 : decode cX12_anAct 112 = .ok (.putfield 272, 3) := by decide +kernel
theorem dX12_anAct_115 : decode cX12_anAct 115 = .ok (.aload_n 0, 1) := by decide +kernel
theorem dX12_anAct_116 : decode cX12_anAct 116 = .ok (.iconst 0, 1) := by decide +kernel
theorem dX12_anAct_117 : decode cX12_anAct 117 = .ok (.putfield 298, 3) := by decide +kernel
theorem dX12_anAct_120 : decode cX12_anAct 120 = .ok (.aload_n 0, 1) := by decide +kernel
theorem dX12_anAct_121 : decode cX12_anAct 121 = .ok (.invokevirtual 266, 3) := by decide +kernel
theorem dX12_anAct_124 : decode cX12_anAct 124 = .ok (.aload_n 0, 1) := by decide +kernel
theorem dX12_anAct_125 : decode cX12_anAct 125 = .ok (.getfield 242, 3) := by decide +kernel
theorem dX12_anAct_128 : decode cX12_anAct 128 = .ok (.sipush 302, 3) := by decide +kernel
theorem dX12_anAct_131 : decode cX12_anAct 131 = .ok (.if_icmp .eq 13, 3) := by decide +kernel
theorem dX12_anAct_134 : decode cX12_anAct 134 = .ok (.aload_n 0, 1) := by decide +kernel
theorem dX12_anAct_135 : decode cX12_anAct 135 = .ok (.getfield 242, 3) := by decide +kernel
theorem dX12_anAct_138 : decode cX12_anAct 138 = .ok (.sipush 303, 3) := by decide +kernel
theorem dX12_anAct_141 : decode cX12_anAct 141 = .ok (.if_icmp .ne 153, 3) := by decide +kernel
theorem dX12_anAct_144 : decode cX12_anAct 144 = .ok (.aload_n 0, 1) := by decide +kernel
theorem dX12_anAct_145 : decode cX12_anAct 145 = .ok (.getfield 242, 3) := by decide +kernel
theorem dX12_anAct_148 : decode cX12_anAct 148 = .ok (.sipush 302, 3) := by decide +kernel
theorem dX12_anAct_151 : decode cX12_anAct 151 = .ok (.if_icmp .ne 7, 3) := by decide +kernel
theorem dX12_anAct_154 : decode cX12_anAct 154 = .ok (.iconst 1, 1) := by decide +kernel
theorem dX12_anAct_155 : decode cX12_anAct 155 = .ok (.goto 4, 3) := by decide +kernel
theorem dX12_anAct_158 : decode cX12_anAct 158 = .ok (.iconst 0, 1) := by decide +kernel
theorem dX12_anAct_159 : decode cX12_anAct 159 = .ok (.istore_n 2, 1) := by decide +kernel
theorem dX12_anAct_160 : decode cX12_anAct 160 = .ok (.iload_n 2, 1) := by decide +kernel
theorem dX12_anAct_161 : decode cX12_anAct 161 = .ok (.ifCond .eq 16, 3) := by decide +kernel
theorem dX12_anAct_164 : decode cX12_anAct 164 = .ok (.aload_n 0, 1) := by decide +kernel
theorem dX12_anAct_165 : decode cX12_anAct 165 = .ok (.getfield 39, 3) := by decide +kernel
theorem dX12_anAct_168 : decode cX12_anAct 168 = .ok (.iload_n 1, 1) := by decide +kernel
theorem dX12_anAct_169 : decode cX12_anAct 169 = .ok (.iaload, 1) := by decide +kernel
theorem dX12_anAct_170 : decode cX12_anAct 170 = .ok (.iconst 4, 1) := by decide +kernel
theorem dX12_anAct_171 : decode cX12_anAct 171 = .ok (.if_icmp .ne 23, 3) := by decide +kernel
theorem dX12_anAct_174 : decode cX12_anAct 174 = .ok (.goto 14, 3) := by decide +kernel
theorem dX12_anAct_177 : decode cX12_anAct 177 = .ok (.aload_n 0, 1) := by decide +kernel
theorem dX12_anAct_178 : decode cX12_anAct 178 = .ok (.getfield 42, 3) := by decide +kernel
theorem dX12_anAct_181 : decode cX12_anAct 181 = .ok (.iload_n 1, 1) := by decide +kernel
theorem dX12_anAct_182 : decode cX12_anAct 182 = .ok (.iaload, 1) := by decide +kernel
theorem dX12_anAct_183 : decode cX12_anAct 183 = .ok (.bipush 6, 2) := by decide +kernel
theorem dX12_anAct_185 : decode cX12_anAct 185 = .ok (.if_icmp .ne 9, 3) := by decide +kernel
theorem dX12_anAct_188 : decode cX12_anAct 188 = .ok (.aload_n 0, 1) := by decide +kernel
theorem dX12_anAct_189 : decode cX12_anAct 189 = .ok (.iconst 3, 1) := by decide +kernel
theorem dX12_anAct_190 : decode cX12_anAct 190 = .ok (.invokevirtual 263, 3) := by decide +kernel
theorem dX12_anAct_193 : decode cX12_anAct 193 = .ok (.ireturn, 1) := by decide +kernel
theorem dX12_anAct_194 : decode cX12_anAct 194 = .ok (.aload_n 0, 1) := by decide +kernel
theorem dX12_anAct_195 : decode cX12_anAct 195 = .ok (.invokevirtual 266, 3) := by decide +kernel
theorem dX12_anAct_198 : decode cX12_anAct 198 = .ok (.iload_n 2, 1) := by decide +kernel
theorem dX12_anAct_199 : decode cX12_anAct 199 = .ok (.ifCond .eq 62, 3) := by decide +kernel
theorem dX12_anAct_202 : decode cX12_anAct 202 = .ok (.iconst 4, 1) := by decide +kernel
theorem dX12_anAct_203 : decode cX12_anAct 203 = .ok (.iload_n 1, 1) := by decide +kernel
theorem dX12_anAct_204 : decode cX12_anAct 204 = .ok (.imul, 1) := by decide +kernel
theorem dX12_anAct_205 : decode cX12_anAct 205 = .ok (.aload_n 0, 1) := by decide +kernel
theorem dX12_anAct_206 : decode cX12_anAct 206 = .ok (.getfield 39, 3) := by decide +kernel
theorem dX12_anAct_209 : decode cX12_anAct 209 = .ok (.iload_n 1, 1) := by decide +kernel
theorem dX12_anAct_210 : decode cX12_anAct 210 = .ok (.iaload, 1) := by decide +kernel
theorem dX12_anAct_211 : decode cX12_anAct 211 = .ok (.iadd, 1) := by decide +kernel
theorem dX12_anAct_212 : decode cX12_anAct 212 = .ok (.istore_n 3, 1) := by decide +kernel
theorem dX12_anAct_213 : decode cX12_anAct 213 = .ok (.aload_n 0, 1) := by decide +kernel
theorem dX12_anAct_214 : decode cX12_anAct 214 = .ok (.getfield 45, 3) := by decide +kernel
theorem dX12_anAct_217 : decode cX12_anAct 217 = .ok (.iload_n 3, 1) := by decide +kernel
theorem dX12_anAct_218 : decode cX12_anAct 218 = .ok (.aload_n 0, 1) := by decide +kernel
theorem dX12_anAct_219 : decode cX12_anAct 219 = .ok (.getfield 33, 3) := by decide +kernel
theorem dX12_anAct_222 : decode cX12_anAct 222 = .ok (.bipush 13, 2) := by decide +kernel
theorem dX12_anAct_224 : decode cX12_anAct 224 = .ok (.iaload, 1) := by decide +kernel
theorem dX12_anAct_225 : decode cX12_anAct 225 = .ok (.iastore, 1) := by decide +kernel
theorem dX12_anAct_226 : decode cX12_anAct 226 = .ok (.aload_n 0, 1) := by decide +kernel
theorem dX12_anAct_227 : decode cX12_anAct 227 = .ok (.invokevirtual 327, 3) := by decide +kernel
theorem dX12_anAct_230 : decode cX12_anAct 230 = .ok (.ifCond .ne 5, 3) := by decide +kernel
theorem dX12_anAct_233 : decode cX12_anAct 233 = .ok (.iconst 0, 1) := by decide +kernel
theorem dX12_anAct_234 : decode cX12_anAct 234 = .ok (.ireturn, 1) := by decide +kernel
theorem dX12_anAct_235 : decode cX12_anAct 235 = .ok (.aload_n 0, 1) := by decide +kernel
theorem dX12_anAct_236 : decode cX12_anAct 236 = .ok (.getfield 48, 3) := by decide +kernel
theorem dX12_anAct_239 : decode cX12_anAct 239 = .ok (.iload_n 3, 1) := by decide +kernel
theorem dX12_anAct_240 : decode cX12_anAct 240 = .ok (.aload_n 0, 1) := by decide +kernel
theorem dX12_anAct_241 : decode cX12_anAct 241 = .ok (.getfield 33, 3) := by decide +kernel
theorem dX12_anAct_244 : decode cX12_anAct 244 = .ok (.bipush 13, 2) := by decide +kernel
theorem dX12_anAct_246 : decode cX12_anAct 246 = .ok (.iaload, 1) := by decide +kernel
theorem dX12_anAct_247 : decode cX12_anAct 247 = .ok (.iastore, 1) := by decide +kernel
theorem dX12_anAct_248 : decode cX12_anAct 248 = .ok (.aload_n 0, 1) := by decide +kernel
theorem dX12_anAct_249 : decode cX12_anAct 249 = .ok (.getfield 39, 3) := by decide +kernel
theorem dX12_anAct_252 : decode cX12_anAct 252 = .ok (.iload_n 1, 1) := by decide +kernel
theorem dX12_anAct_253 : decode cX12_anAct 253 = .ok (.dup2, 1) := by decide +kernel
theorem dX12_anAct_254 : decode cX12_anAct 254 = .ok (.iaload, 1) := by decide +kernel
theorem dX12_anAct_255 : decode cX12_anAct 255 = .ok (.iconst 1, 1) := by decide +kernel
theorem dX12_anAct_256 : decode cX12_anAct 256 = .ok (.iadd, 1) := by decide +kernel
theorem dX12_anAct_257 : decode cX12_anAct 257 = .ok (.iastore, 1) := by decide +kernel
theorem dX12_anAct_258 : decode cX12_anAct 258 = .ok (.goto 33, 3) := by decide +kernel
theorem dX12_anAct_261 : decode cX12_anAct 261 = .ok (.aload_n 0, 1) := by decide +kernel
theorem dX12_anAct_262 : decode cX12_anAct 262 = .ok (.bipush 6, 2) := by decide +kernel
theorem dX12_anAct_264 : decode cX12_anAct 264 = .ok (.iload_n 1, 1) := by decide +kernel
theorem dX12_anAct_265 : decode cX12_anAct 265 = .ok (.imul, 1) := by decide +kernel
theorem dX12_anAct_266 : decode cX12_anAct 266 = .ok (.aload_n 0, 1) := by decide +kernel
theorem dX12_anAct_267 : decode cX12_anAct 267 = .ok (.getfield 42, 3) := by decide +kernel
theorem dX12_anAct_270 : decode cX12_anAct 270 = .ok (.iload_n 1, 1) := by decide +kernel
theorem dX12_anAct_271 : decode cX12_anAct 271 = .ok (.iaload, 1) := by decide +kernel
theorem dX12_anAct_272 : decode cX12_anAct 272 = .ok (.iadd, 1) := by decide +kernel
theorem dX12_anAct_273 : decode cX12_anAct 273 = .ok (.invokevirtual 330, 3) := by decide +kernel
theorem dX12_anAct_276 : decode cX12_anAct 276 = .ok (.ifCond .ne 5, 3) := by decide +kernel
theorem dX12_anAct_279 : decode cX12_anAct 279 = .ok (.iconst 0, 1) := by decide +kernel
theorem dX12_anAct_280 : decode cX12_anAct 280 = .ok (.ireturn, 1) := by decide +kernel
theorem dX12_anAct_281 : decode cX12_anAct 281 = .ok (.aload_n 0, 1) := by decide +kernel
theorem dX12_anAct_282 : decode cX12_anAct 282 = .ok (.getfield 42, 3) := by decide +kernel
theorem dX12_anAct_285 : decode cX12_anAct 285 = .ok (.iload_n 1, 1) := by decide +kernel
theorem dX12_anAct_286 : decode cX12_anAct 286 = .ok (.dup2, 1) := by decide +kernel
theorem dX12_anAct_287 : decode cX12_anAct 287 = .ok (.iaload, 1) := by decide +kernel
theorem dX12_anAct_288 : decode cX12_anAct 288 = .ok (.iconst 1, 1) := by decide +kernel
theorem dX12_anAct_289 : decode cX12_anAct 289 = .ok (.iadd, 1) := by decide +kernel
theorem dX12_anAct_290 : decode cX12_anAct 290 = .ok (.iastore, 1) := by decide +kernel
theorem dX12_anAct_291 : decode cX12_anAct 291 = .ok (.goto (-167), 3) := by decide +kernel
theorem dX12_anAct_294 : decode cX12_anAct 294 = .ok (.aload_n 0, 1) := by decide +kernel
theorem dX12_anAct_295 : decode cX12_anAct 295 = .ok (.getfield 72, 3) := by decide +kernel
theorem dX12_anAct_298 : decode cX12_anAct 298 = .ok (.iload_n 1, 1) := by decide +kernel
theorem dX12_anAct_299 : decode cX12_anAct 299 = .ok (.aload_n 0, 1) := by decide +kernel
theorem dX12_anAct_300 : decode cX12_anAct 300 = .ok (.getfield 272, 3) := by decide +kernel
theorem dX12_anAct_303 : decode cX12_anAct 303 = .ok (.bastore, 1) := by decide +kernel
theorem dX12_anAct_304 : decode cX12_anAct 304 = .ok (.aload_n 0, 1) := by decide +kernel
theorem dX12_anAct_305 : decode cX12_anAct 305 = .ok (.getfield 75, 3) := by decide +kernel
theorem dX12_anAct_308 : decode cX12_anAct 308 = .ok (.iload_n 1, 1) := by decide +kernel
theorem dX12_anAct_309 : decode cX12_anAct 309 = .ok (.aload_n 0, 1) := by decide +kernel
theorem dX12_anAct_310 : decode cX12_anAct 310 = .ok (.getfield 298, 3) := by decide +kernel
theorem dX12_anAct_313 : decode cX12_anAct 313 = .ok (.bastore, 1) := by decide +kernel
theorem dX12_anAct_314 : decode cX12_anAct 314 = .ok (.aload_n 0, 1) := by decide +kernel
theorem dX12_anAct_315 : decode cX12_anAct 315 = .ok (.dup, 1) := by decide +kernel
theorem dX12_anAct_316 : decode cX12_anAct 316 = .ok (.getfield 321, 3) := by decide +kernel
theorem dX12_anAct_319 : decode cX12_anAct 319 = .ok (.iconst 1, 1) := by decide +kernel
theorem dX12_anAct_320 : decode cX12_anAct 320 = .ok (.iadd, 1) := by decide +kernel
theorem dX12_anAct_321 : decode cX12_anAct 321 = .ok (.putfield 321, 3) := by decide +kernel
theorem dX12_anAct_324 : decode cX12_anAct 324 = .ok (.aload_n 0, 1) := by decide +kernel
theorem dX12_anAct_325 : decode cX12_anAct 325 = .ok (.bipush 59, 2) := by decide +kernel
theorem dX12_anAct_327 : decode cX12_anAct 327 = .ok (.invokevirtual 313, 3) := by decide +kernel
theorem dX12_anAct_330 : decode cX12_anAct 330 = .ok (.ireturn, 1) := by decide +kernel
theorem dX12_any_0 : decode cX12_any 0 = .ok (.aload_n 0, 1) := by decide +kernel
theorem dX12_any_1 : decode cX12_any 1 = .ok (.invokevirtual 301, 3) := by decide +kernel
theorem dX12_any_4 : decode cX12_any 4 = .ok (.ifCond .ne 5, 3) := by decide +kernel
theorem dX12_any_7 : decode cX12_any 7 = .ok (.iconst 0, 1) := by decide +kernel
theorem dX12_any_8 : decode cX12_any 8 = .ok (.ireturn, 1) := by decide +kernel
theorem dX12_any_9 : decode cX12_any 9 = .ok (.aload_n 0, 1) := by decide +kernel
theorem dX12_any_10 : decode cX12_any 10 = .ok (.getfield 242, 3) := by decide +kernel
theorem dX12_any_13 : decode cX12_any 13 = .ok (.sipush 312, 3) := by decide +kernel
theorem dX12_any_16 : decode cX12_any 16 = .ok (.if_icmp .ne 26, 3) := by decide +kernel
theorem dX12_any_19 : decode cX12_any 19 = .ok (.aload_n 0, 1) := by decide +kernel
theorem dX12_any_20 : decode cX12_any 20 = .ok (.invokevirtual 266, 3) := by decide +kernel
theorem dX12_any_23 : decode cX12_any 23 = .ok (.aload_n 0, 1) := by decide +kernel
theorem dX12_any_24 : decode cX12_any 24 = .ok (.invokevirtual 301, 3) := by decide +kernel
theorem dX12_any_27 : decode cX12_any 27 = .ok (.ifCond .ne 5, 3) := by decide +kernel
theorem dX12_any_30 : decode cX12_any 30 = .ok (.iconst 0, 1) := by decide +kernel
theorem dX12_any_31 : decode cX12_any 31 = .ok (.ireturn, 1) := by decide +kernel
theorem dX12_any_32 : decode cX12_any 32 = .ok (.aload_n 0, 1) := by decide +kernel
theorem dX12_any_33 : decode cX12_any 33 = .ok (.bipush 16, 2) := by decide +kernel
theorem dX12_any_35 : decode cX12_any 35 = .ok (.iconst 0, 1) := by decide +kernel
theorem dX12_any_36 : decode cX12_any 36 = .ok (.invokevirtual 288, 3) := by decide +kernel
theorem dX12_any_39 : decode cX12_any 39 = .ok (.goto (-30), 3) := by decide +kernel
theorem dX12_any_42 : decode cX12_any 42 = .ok (.iconst 1, 1) := by decide +kernel
theorem dX12_any_43 : decode cX12_any 43 = .ok (.ireturn, 1) := by decide +kernel
theorem dX12_asked_0 : decode cX12_asked 0 = .ok (.aload_n 0, 1) := by decide +kernel
theorem dX12_asked_1 : decode cX12_asked 1 = .ok (.iconst 0, 1) := by decide +kernel
theorem dX12_asked_2 : decode cX12_asked 2 = .ok (.putfield 282, 3) := by decide +kernel
theorem dX12_asked_5 : decode cX12_asked 5 = .ok (.aload_n 0, 1) := by decide +kernel
theorem dX12_asked_6 : decode cX12_asked 6 = .ok (.invokevirtual 310, 3) := by decide +kernel
theorem dX12_asked_9 : decode cX12_asked 9 = .ok (.ireturn, 1) := by decide +kernel
theorem dX12_bad_0 : decode cX12_bad 0 = .ok (.aload_n 0, 1) := by decide +kernel
theorem dX12_bad_1 : decode cX12_bad 1 = .ok (.iload_n 1, 1) := by decide +kernel
theorem dX12_bad_2 : decode cX12_bad 2 = .ok (.putfield 257, 3) := by decide +kernel
theorem dX12_bad_5 : decode cX12_bad 5 = .ok (.aload_n 0, 1) := by decide +kernel
theorem dX12_bad_6 : decode cX12_bad 6 = .ok (.aload_n 0, 1) := by decide +kernel
theorem dX12_bad_7 : decode cX12_bad 7 = .ok (.getfield 188, 3) := by decide +kernel
theorem dX12_bad_10 : decode cX12_bad 10 = .ok (.putfield 260, 3) := by decide +kernel
theorem dX12_bad_13 : decode cX12_bad 13 = .ok (.iconst 0, 1) := by decide +kernel
theorem dX12_bad_14 : decode cX12_bad 14 = .ok (.ireturn, 1) := by decide +kernel
theorem dX12_begins_0 : decode cX12_begins 0 = .ok (.aload_n 0, 1) := by decide +kernel
theorem dX12_begins_1 : decode cX12_begins 1 = .ok (.iconst 0, 1) := by decide +kernel
theorem dX12_begins_2 : decode cX12_begins 2 = .ok (.putfield 257, 3) := by decide +kernel
theorem dX12_begins_5 : decode cX12_begins 5 = .ok (.aload_n 0, 1) := by decide +kernel
theorem dX12_begins_6 : decode cX12_begins 6 = .ok (.iconst 0, 1) := by decide +kernel
theorem dX12_begins_7 : decode cX12_begins 7 = .ok (.putfield 185, 3) := by decide +kernel
theorem dX12_begins_10 : decode cX12_begins 10 = .ok (.aload_n 0, 1) := by decide +kernel
theorem dX12_begins_11 : decode cX12_begins 11 = .ok (.iconst 0, 1) := by decide +kernel
theorem dX12_begins_12 : decode cX12_begins 12 = .ok (.putfield 321, 3) := by decide +kernel
theorem dX12_begins_15 : decode cX12_begins 15 = .ok (.aload_n 0, 1) := by decide +kernel
theorem dX12_begins_16 : decode cX12_begins 16 = .ok (.getfield 33, 3) := by decide +kernel
theorem dX12_begins_19 : decode cX12_begins 19 = .ok (.bipush 13, 2) := by decide +kernel
theorem dX12_begins_21 : decode cX12_begins 21 = .ok (.iconst 0, 1) := by decide +kernel
theorem dX12_begins_22 : decode cX12_begins 22 = .ok (.iastore, 1) := by decide +kernel
theorem dX12_begins_23 : decode cX12_begins 23 = .ok (.aload_n 0, 1) := by decide +kernel
theorem dX12_begins_24 : decode cX12_begins 24 = .ok (.invokevirtual 266, 3) := by decide +kernel
theorem dX12_begins_27 : decode cX12_begins 27 = .ok (.return_, 1) := by decide +kernel
theorem dX12_bits_0 : decode cX12_bits 0 = .ok (.iload_n 0, 1) := by decide +kernel
theorem dX12_bits_1 : decode cX12_bits 1 = .ok (.iconst 1, 1) := by decide +kernel
theorem dX12_bits_2 : decode cX12_bits 2 = .ok (.iand, 1) := by decide +kernel
theorem dX12_bits_3 : decode cX12_bits 3 = .ok (.iload_n 0, 1) := by decide +kernel
theorem dX12_bits_4 : decode cX12_bits 4 = .ok (.iconst 1, 1) := by decide +kernel
theorem dX12_bits_5 : decode cX12_bits 5 = .ok (.ishr, 1) := by decide +kernel
theorem dX12_bits_6 : decode cX12_bits 6 = .ok (.iconst 1, 1) := by decide +kernel
theorem dX12_bits_7 : decode cX12_bits 7 = .ok (.iand, 1) := by decide +kernel
theorem dX12_bits_8 : decode cX12_bits 8 = .ok (.iadd, 1) := by decide +kernel
theorem dX12_bits_9 : decode cX12_bits 9 = .ok (.iload_n 0, 1) := by decide +kernel
theorem dX12_bits_10 : decode cX12_bits 10 = .ok (.iconst 2, 1) := by decide +kernel
theorem dX12_bits_11 : decode cX12_bits 11 = .ok (.ishr, 1) := by decide +kernel
theorem dX12_bits_12 : decode cX12_bits 12 = .ok (.iconst 1, 1) := by decide +kernel
theorem dX12_bits_13 : decode cX12_bits 13 = .ok (.iand, 1) := by decide +kernel
theorem dX12_bits_14 : decode cX12_bits 14 = .ok (.iadd, 1) := by decide +kernel
theorem dX12_bits_15 : decode cX12_bits 15 = .ok (.iload_n 0, 1) := by decide +kernel
theorem dX12_bits_16 : decode cX12_bits 16 = .ok (.iconst 3, 1) := by decide +kernel
theorem dX12_bits_17 : decode cX12_bits 17 = .ok (.ishr, 1) := by decide +kernel
theorem dX12_bits_18 : decode cX12_bits 18 = .ok (.iconst 1, 1) := by decide +kernel
theorem dX12_bits_19 : decode cX12_bits 19 = .ok (.iand, 1) := by decide +kernel
theorem dX12_bits_20 : decode cX12_bits 20 = .ok (.iadd, 1) := by decide +kernel
theorem dX12_bits_21 : decode cX12_bits 21 = .ok (.iload_n 0, 1) := by decide +kernel
theorem dX12_bits_22 : decode cX12_bits 22 = .ok (.iconst 4, 1) := by decide +kernel
theorem dX12_bits_23 : decode cX12_bits 23 = .ok (.ishr, 1) := by decide +kernel
theorem dX12_bits_24 : decode cX12_bits 24 = .ok (.iconst 1, 1) := by decide +kernel
theorem dX12_bits_25 : decode cX12_bits 25 = .ok (.iand, 1) := by decide +kernel
theorem dX12_bits_26 : decode cX12_bits 26 = .ok (.iadd, 1) := by decide +kernel
theorem dX12_bits_27 : decode cX12_bits 27 = .ok (.ireturn, 1) := by decide +kernel
theorem dX12_both_0 : decode cX12_both 0 = .ok (.iload_n 0, 1) := by decide +kernel
theorem dX12_both_1 : decode cX12_both 1 = .ok (.tableswitch 96 8 15 #[47, 51, 55, 59, 70, 81, 96, 92], 47) := by decide +kernel
theorem dX12_both_48 : decode cX12_both 48 = .ok (.iload_n 1, 1) := by decide +kernel
theorem dX12_both_49 : decode cX12_both 49 = .ok (.iload_n 2, 1) := by decide +kernel
theorem dX12_both_50 : decode cX12_both 50 = .ok (.iadd, 1) := by decide +kernel
theorem dX12_both_51 : decode cX12_both 51 = .ok (.ireturn, 1) := by decide +kernel
theorem dX12_both_52 : decode cX12_both 52 = .ok (.iload_n 1, 1) := by decide +kernel
theorem dX12_both_53 : decode cX12_both 53 = .ok (.iload_n 2, 1) := by decide +kernel
theorem dX12_both_54 : decode cX12_both 54 = .ok (.isub, 1) := by decide +kernel
theorem dX12_both_55 : decode cX12_both 55 = .ok (.ireturn, 1) := by decide +kernel
theorem dX12_both_56 : decode cX12_both 56 = .ok (.iload_n 1, 1) := by decide +kernel
theorem dX12_both_57 : decode cX12_both 57 = .ok (.iload_n 2, 1) := by decide +kernel
theorem dX12_both_58 : decode cX12_both 58 = .ok (.imul, 1) := by decide +kernel
theorem dX12_both_59 : decode cX12_both 59 = .ok (.ireturn, 1) := by decide +kernel
theorem dX12_both_60 : decode cX12_both 60 = .ok (.iload_n 1, 1) := by decide +kernel
theorem dX12_both_61 : decode cX12_both 61 = .ok (.iload_n 2, 1) := by decide +kernel
theorem dX12_both_62 : decode cX12_both 62 = .ok (.if_icmp .ge 7, 3) := by decide +kernel
theorem dX12_both_65 : decode cX12_both 65 = .ok (.iconst 1, 1) := by decide +kernel
theorem dX12_both_66 : decode cX12_both 66 = .ok (.goto 4, 3) := by decide +kernel
theorem dX12_both_69 : decode cX12_both 69 = .ok (.iconst 0, 1) := by decide +kernel
theorem dX12_both_70 : decode cX12_both 70 = .ok (.ireturn, 1) := by decide +kernel
theorem dX12_both_71 : decode cX12_both 71 = .ok (.iload_n 1, 1) := by decide +kernel
theorem dX12_both_72 : decode cX12_both 72 = .ok (.iload_n 2, 1) := by decide +kernel
theorem dX12_both_73 : decode cX12_both 73 = .ok (.if_icmp .ne 7, 3) := by decide +kernel
theorem dX12_both_76 : decode cX12_both 76 = .ok (.iconst 1, 1) := by decide +kernel
theorem dX12_both_77 : decode cX12_both 77 = .ok (.goto 4, 3) := by decide +kernel
theorem dX12_both_80 : decode cX12_both 80 = .ok (.iconst 0, 1) := by decide +kernel
theorem dX12_both_81 : decode cX12_both 81 = .ok (.ireturn, 1) := by decide +kernel
theorem dX12_both_82 : decode cX12_both 82 = .ok (.iload_n 1, 1) := by decide +kernel
theorem dX12_both_83 : decode cX12_both 83 = .ok (.iload_n 2, 1) := by decide +kernel
theorem dX12_both_84 : decode cX12_both 84 = .ok (.if_icmp .le 7, 3) := by decide +kernel
theorem dX12_both_87 : decode cX12_both 87 = .ok (.iconst 1, 1) := by decide +kernel
theorem dX12_both_88 : decode cX12_both 88 = .ok (.goto 4, 3) := by decide +kernel
theorem dX12_both_91 : decode cX12_both 91 = .ok (.iconst 0, 1) := by decide +kernel
theorem dX12_both_92 : decode cX12_both 92 = .ok (.ireturn, 1) := by decide +kernel
theorem dX12_both_93 : decode cX12_both 93 = .ok (.iload_n 1, 1) := by decide +kernel
theorem dX12_both_94 : decode cX12_both 94 = .ok (.iload_n 2, 1) := by decide +kernel
theorem dX12_both_95 : decode cX12_both 95 = .ok (.iand, 1) := by decide +kernel
theorem dX12_both_96 : decode cX12_both 96 = .ok (.ireturn, 1) := by decide +kernel
theorem dX12_both_97 : decode cX12_both 97 = .ok (.iload_n 1, 1) := by decide +kernel
theorem dX12_both_98 : decode cX12_both 98 = .ok (.iload_n 2, 1) := by decide +kernel
theorem dX12_both_99 : decode cX12_both 99 = .ok (.ior, 1) := by decide +kernel
theorem dX12_both_100 : decode cX12_both 100 = .ok (.ireturn, 1) := by decide +kernel
theorem dX12_canSearch_0 : decode cX12_canSearch 0 = .ok (.iload_n 1, 1) := by decide +kernel
theorem dX12_canSearch_1 : decode cX12_canSearch 1 = .ok (.iconst 1, 1) := by decide +kernel
theorem dX12_canSearch_2 : decode cX12_canSearch 2 = .ok (.iconst 3, 1) := by decide +kernel
theorem dX12_canSearch_3 : decode cX12_canSearch 3 = .ok (.invokestatic 1, 3) := by decide +kernel
theorem dX12_canSearch_6 : decode cX12_canSearch 6 = .ok (.ifCond .eq 17, 3) := by decide +kernel
theorem dX12_canSearch_9 : decode cX12_canSearch 9 = .ok (.iload_n 2, 1) := by decide +kernel
theorem dX12_canSearch_10 : decode cX12_canSearch 10 = .ok (.iconst 0, 1) := by decide +kernel
theorem dX12_canSearch_11 : decode cX12_canSearch 11 = .ok (.bipush 6, 2) := by decide +kernel
theorem dX12_canSearch_13 : decode cX12_canSearch 13 = .ok (.invokestatic 1, 3) := by decide +kernel
theorem dX12_canSearch_16 : decode cX12_canSearch 16 = .ok (.ifCond .eq 7, 3) := by decide +kernel
theorem dX12_canSearch_19 : decode cX12_canSearch 19 = .ok (.iconst 1, 1) := by decide +kernel
theorem dX12_canSearch_20 : decode cX12_canSearch 20 = .ok (.goto 4, 3) := by decide +kernel
theorem dX12_canSearch_23 : decode cX12_canSearch 23 = .ok (.iconst 0, 1) := by decide +kernel
theorem dX12_canSearch_24 : decode cX12_canSearch 24 = .ok (.ireturn, 1) := by decide +kernel
theorem dX12_change_0 : decode cX12_change 0 = .ok (.aload_n 0, 1) := by decide +kernel
theorem dX12_change_1 : decode cX12_change 1 = .ok (.getfield 242, 3) := by decide +kernel
theorem dX12_change_4 : decode cX12_change 4 = .ok (.istore_n 2, 1) := by decide +kernel
theorem dX12_change_5 : decode cX12_change 5 = .ok (.iload_n 2, 1) := by decide +kernel
theorem dX12_change_6 : decode cX12_change 6 = .ok (.sipush 304, 3) := by decide +kernel
theorem dX12_change_9 : decode cX12_change 9 = .ok (.if_icmp .eq 42, 3) := by decide +kernel
theorem dX12_change_12 : decode cX12_change 12 = .ok (.iload_n 2, 1) := by decide +kernel
theorem dX12_change_13 : decode cX12_change 13 = .ok (.sipush 305, 3) := by decide +kernel
theorem dX12_change_16 : decode cX12_change 16 = .ok (.if_icmp .eq 35, 3) := by decide +kernel
theorem dX12_change_19 : decode cX12_change 19 = .ok (.iload_n 2, 1) := by decide +kernel
theorem dX12_change_20 : decode cX12_change 20 = .ok (.sipush 306, 3) := by decide +kernel
theorem dX12_change_23 : decode cX12_change 23 = .ok (.sipush 306, 3) := by decide +kernel
theorem dX12_change_26 : decode cX12_change 26 = .ok (.invokestatic 1, 3) := by decide +kernel
theorem dX12_change_29 : decode cX12_change 29 = .ok (.ifCond .ne 22, 3) := by decide +kernel
theorem dX12_change_32 : decode cX12_change 32 = .ok (.iload_n 2, 1) := by decide +kernel
theorem dX12_change_33 : decode cX12_change 33 = .ok (.sipush 308, 3) := by decide +kernel
theorem dX12_change_36 : decode cX12_change 36 = .ok (.sipush 311, 3) := by decide +kernel
theorem dX12_change_39 : decode cX12_change 39 = .ok (.invokestatic 1, 3) := by decide +kernel
theorem dX12_change_42 : decode cX12_change 42 = .ok (.ifCond .ne 9, 3) := by decide +kernel
theorem dX12_change_45 : decode cX12_change 45 = .ok (.aload_n 0, 1) := by decide +kernel
theorem dX12_change_46 : decode cX12_change 46 = .ok (.iconst 1, 1) := by decide +kernel
theorem dX12_change_47 : decode cX12_change 47 = .ok (.invokevirtual 263, 3) := by decide +kernel
theorem dX12_change_50 : decode cX12_change 50 = .ok (.ireturn, 1) := by decide +kernel
theorem dX12_change_51 : decode cX12_change 51 = .ok (.aload_n 0, 1) := by decide +kernel
theorem dX12_change_52 : decode cX12_change 52 = .ok (.getfield 51, 3) := by decide +kernel
theorem dX12_change_55 : decode cX12_change 55 = .ok (.iload_n 1, 1) := by decide +kernel
theorem dX12_change_56 : decode cX12_change 56 = .ok (.iload_n 2, 1) := by decide +kernel
theorem dX12_change_57 : decode cX12_change 57 = .ok (.sipush 304, 3) := by decide +kernel
theorem dX12_change_60 : decode cX12_change 60 = .ok (.isub, 1) := by decide +kernel
theorem dX12_change_61 : decode cX12_change 61 = .ok (.iastore, 1) := by decide +kernel
theorem dX12_change_62 : decode cX12_change 62 = .ok (.aload_n 0, 1) := by decide +kernel
theorem dX12_change_63 : decode cX12_change 63 = .ok (.getfield 60, 3) := by decide +kernel
theorem dX12_change_66 : decode cX12_change 66 = .ok (.iload_n 1, 1) := by decide +kernel
theorem dX12_change_67 : decode cX12_change 67 = .ok (.iconst 0, 1) := by decide +kernel
theorem dX12_change_68 : decode cX12_change 68 = .ok (.iastore, 1) := by decide +kernel
theorem dX12_change_69 : decode cX12_change 69 = .ok (.aload_n 0, 1) := by decide +kernel
theorem dX12_change_70 : decode cX12_change 70 = .ok (.getfield 63, 3) := by decide +kernel
theorem dX12_change_73 : decode cX12_change 73 = .ok (.iload_n 1, 1) := by decide +kernel
theorem dX12_change_74 : decode cX12_change 74 = .ok (.iconst 0, 1) := by decide +kernel
theorem dX12_change_75 : decode cX12_change 75 = .ok (.iastore, 1) := by decide +kernel
theorem dX12_change_76 : decode cX12_change 76 = .ok (.aload_n 0, 1) := by decide +kernel
theorem dX12_change_77 : decode cX12_change 77 = .ok (.invokevirtual 266, 3) := by decide +kernel
theorem dX12_change_80 : decode cX12_change 80 = .ok (.iload_n 2, 1) := by decide +kernel
theorem dX12_change_81 : decode cX12_change 81 = .ok (.sipush 311, 3) := by decide +kernel
theorem dX12_change_84 : decode cX12_change 84 = .ok (.if_icmp .ne 26, 3) := by decide +kernel
theorem dX12_change_87 : decode cX12_change 87 = .ok (.aload_n 0, 1) := by decide +kernel
theorem dX12_change_88 : decode cX12_change 88 = .ok (.getfield 242, 3) := by decide +kernel
theorem dX12_change_91 : decode cX12_change 91 = .ok (.bipush 43, 2) := by decide +kernel
theorem dX12_change_93 : decode cX12_change 93 = .ok (.if_icmp .ne 11, 3) := by decide +kernel
theorem dX12_change_96 : decode cX12_change 96 = .ok (.aload_n 0, 1) := by decide +kernel
theorem dX12_change_97 : decode cX12_change 97 = .ok (.iload_n 1, 1) := by decide +kernel
theorem dX12_change_98 : decode cX12_change 98 = .ok (.invokevirtual 318, 3) := by decide +kernel
theorem dX12_change_101 : decode cX12_change 101 = .ok (.goto 8, 3) := by decide +kernel
theorem dX12_change_104 : decode cX12_change 104 = .ok (.aload_n 0, 1) := by decide +kernel
theorem dX12_change_105 : decode cX12_change 105 = .ok (.iconst 1, 1) := by decide +kernel
theorem dX12_change_106 : decode cX12_change 106 = .ok (.invokevirtual 263, 3) := by decide +kernel
theorem dX12_change_109 : decode cX12_change 109 = .ok (.ireturn, 1) := by decide +kernel
theorem dX12_change_110 : decode cX12_change 110 = .ok (.iload_n 2, 1) := by decide +kernel
theorem dX12_change_111 : decode cX12_change 111 = .ok (.sipush 306, 3) := by decide +kernel
theorem dX12_change_114 : decode cX12_change 114 = .ok (.if_icmp .ne 31, 3) := by decide +kernel
theorem dX12_change_117 : decode cX12_change 117 = .ok (.aload_n 0, 1) := by decide +kernel
theorem dX12_change_118 : decode cX12_change 118 = .ok (.iconst 1, 1) := by decide +kernel
theorem dX12_change_119 : decode cX12_change 119 = .ok (.putfield 298, 3) := by decide +kernel
theorem dX12_change_122 : decode cX12_change 122 = .ok (.aload_n 0, 1) := by decide +kernel
theorem dX12_change_123 : decode cX12_change 123 = .ok (.getfield 242, 3) := by decide +kernel
theorem dX12_change_126 : decode cX12_change 126 = .ok (.sipush 307, 3) := by decide +kernel
theorem dX12_change_129 : decode cX12_change 129 = .ok (.if_icmp .ne 16, 3) := by decide +kernel
theorem dX12_change_132 : decode cX12_change 132 = .ok (.aload_n 0, 1) := by decide +kernel
theorem dX12_change_133 : decode cX12_change 133 = .ok (.getfield 54, 3) := by decide +kernel
theorem dX12_change_136 : decode cX12_change 136 = .ok (.iload_n 1, 1) := by decide +kernel
theorem dX12_change_137 : decode cX12_change 137 = .ok (.iconst 3, 1) := by decide +kernel
theorem dX12_change_138 : decode cX12_change 138 = .ok (.iastore, 1) := by decide +kernel
theorem dX12_change_139 : decode cX12_change 139 = .ok (.aload_n 0, 1) := by decide +kernel
theorem dX12_change_140 : decode cX12_change 140 = .ok (.invokevirtual 266, 3) := by decide +kernel
theorem dX12_change_143 : decode cX12_change 143 = .ok (.iconst 1, 1) := by decide +kernel
theorem dX12_change_144 : decode cX12_change 144 = .ok (.ireturn, 1) := by decide +kernel
theorem dX12_change_145 : decode cX12_change 145 = .ok (.iload_n 2, 1) := by decide +kernel
theorem dX12_change_146 : decode cX12_change 146 = .ok (.sipush 304, 3) := by decide +kernel
theorem dX12_change_149 : decode cX12_change 149 = .ok (.if_icmp .eq 10, 3) := by decide +kernel
theorem dX12_change_152 : decode cX12_change 152 = .ok (.iload_n 2, 1) := by decide +kernel
theorem dX12_change_153 : decode cX12_change 153 = .ok (.sipush 306, 3) := by decide +kernel
theorem dX12_change_156 : decode cX12_change 156 = .ok (.if_icmp .ne 13, 3) := by decide +kernel
theorem dX12_change_159 : decode cX12_change 159 = .ok (.aload_n 0, 1) := by decide +kernel
theorem dX12_change_160 : decode cX12_change 160 = .ok (.invokevirtual 276, 3) := by decide +kernel
theorem dX12_change_163 : decode cX12_change 163 = .ok (.ifCond .ne 15, 3) := by decide +kernel
theorem dX12_change_166 : decode cX12_change 166 = .ok (.goto 10, 3) := by decide +kernel
theorem dX12_change_169 : decode cX12_change 169 = .ok (.aload_n 0, 1) := by decide +kernel
theorem dX12_change_170 : decode cX12_change 170 = .ok (.invokevirtual 295, 3) := by decide +kernel
theorem dX12_change_173 : decode cX12_change 173 = .ok (.ifCond .ne 5, 3) := by decide +kernel
theorem dX12_change_176 : decode cX12_change 176 = .ok (.iconst 0, 1) := by decide +kernel
theorem dX12_change_177 : decode cX12_change 177 = .ok (.ireturn, 1) := by decide +kernel
theorem dX12_change_178 : decode cX12_change 178 = .ok (.aload_n 0, 1) := by decide +kernel
theorem dX12_change_179 : decode cX12_change 179 = .ok (.getfield 54, 3) := by decide +kernel
theorem dX12_change_182 : decode cX12_change 182 = .ok (.iload_n 1, 1) := by decide +kernel
theorem dX12_change_183 : decode cX12_change 183 = .ok (.aload_n 0, 1) := by decide +kernel
theorem dX12_change_184 : decode cX12_change 184 = .ok (.getfield 269, 3) := by decide +kernel
theorem dX12_change_187 : decode cX12_change 187 = .ok (.iastore, 1) := by decide +kernel
theorem dX12_change_188 : decode cX12_change 188 = .ok (.aload_n 0, 1) := by decide +kernel
theorem dX12_change_189 : decode cX12_change 189 = .ok (.getfield 57, 3) := by decide +kernel
theorem dX12_change_192 : decode cX12_change 192 = .ok (.iload_n 1, 1) := by decide +kernel
theorem dX12_change_193 : decode cX12_change 193 = .ok (.aload_n 0, 1) := by decide +kernel
theorem dX12_change_194 : decode cX12_change 194 = .ok (.getfield 279, 3) := by decide +kernel
theorem dX12_change_197 : decode cX12_change 197 = .ok (.iastore, 1) := by decide +kernel
theorem dX12_change_198 : decode cX12_change 198 = .ok (.iload_n 2, 1) := by decide +kernel
theorem dX12_change_199 : decode cX12_change 199 = .ok (.sipush 304, 3) := by decide +kernel
theorem dX12_change_202 : decode cX12_change 202 = .ok (.if_icmp .eq 10, 3) := by decide +kernel
theorem dX12_change_205 : decode cX12_change 205 = .ok (.iload_n 2, 1) := by decide +kernel
theorem dX12_change_206 : decode cX12_change 206 = .ok (.sipush 305, 3) := by decide +kernel
theorem dX12_change_209 : decode cX12_change 209 = .ok (.if_icmp .ne 11, 3) := by decide +kernel
theorem dX12_change_212 : decode cX12_change 212 = .ok (.aload_n 0, 1) := by decide +kernel
theorem dX12_change_213 : decode cX12_change 213 = .ok (.iload_n 1, 1) := by decide +kernel
theorem dX12_change_214 : decode cX12_change 214 = .ok (.invokevirtual 318, 3) := by decide +kernel
theorem dX12_change_217 : decode cX12_change 217 = .ok (.ifCond .eq 7, 3) := by decide +kernel
theorem dX12_change_220 : decode cX12_change 220 = .ok (.iconst 1, 1) := by decide +kernel
theorem dX12_change_221 : decode cX12_change 221 = .ok (.goto 4, 3) := by decide +kernel
theorem dX12_change_224 : decode cX12_change 224 = .ok (.iconst 0, 1) := by decide +kernel
theorem dX12_change_225 : decode cX12_change 225 = .ok (.ireturn, 1) := by decide +kernel
theorem dX12_clear_0 : decode cX12_clear 0 = .ok (.iload_n 1, 1) := by decide +kernel
theorem dX12_clear_1 : decode cX12_clear 1 = .ok (.invokestatic 452, 3) := by decide +kernel
theorem dX12_clear_4 : decode cX12_clear 4 = .ok (.ifCond .ne 5, 3) := by decide +kernel
theorem dX12_clear_7 : decode cX12_clear 7 = .ok (.iconst 0, 1) := by decide +kernel
theorem dX12_clear_8 : decode cX12_clear 8 = .ok (.ireturn, 1) := by decide +kernel
theorem dX12_clear_9 : decode cX12_clear 9 = .ok (.aload_n 0, 1) := by decide +kernel
theorem dX12_clear_10 : decode cX12_clear 10 = .ok (.getfield 140, 3) := by decide +kernel
theorem dX12_clear_13 : decode cX12_clear 13 = .ok (.iload_n 1, 1) := by decide +kernel
theorem dX12_clear_14 : decode cX12_clear 14 = .ok (.iconst 0, 1) := by decide +kernel
theorem dX12_clear_15 : decode cX12_clear 15 = .ok (.iastore, 1) := by decide +kernel
theorem dX12_clear_16 : decode cX12_clear 16 = .ok (.aload_n 0, 1) := by decide +kernel
theorem dX12_clear_17 : decode cX12_clear 17 = .ok (.getfield 143, 3) := by decide +kernel
theorem dX12_clear_20 : decode cX12_clear 20 = .ok (.iload_n 1, 1) := by decide +kernel
theorem dX12_clear_21 : decode cX12_clear 21 = .ok (.iconst 0, 1) := by decide +kernel
theorem dX12_clear_22 : decode cX12_clear 22 = .ok (.bastore, 1) := by decide +kernel
theorem dX12_clear_23 : decode cX12_clear 23 = .ok (.iconst 1, 1) := by decide +kernel
theorem dX12_clear_24 : decode cX12_clear 24 = .ok (.ireturn, 1) := by decide +kernel
theorem dX12_codeOf_0 : decode cX12_codeOf 0 = .ok (.iload_n 1, 1) := by decide +kernel
theorem dX12_codeOf_1 : decode cX12_codeOf 1 = .ok (.istore_n 3, 1) := by decide +kernel
theorem dX12_codeOf_2 : decode cX12_codeOf 2 = .ok (.aload_n 0, 1) := by decide +kernel
theorem dX12_codeOf_3 : decode cX12_codeOf 3 = .ok (.getfield 107, 3) := by decide +kernel
theorem dX12_codeOf_6 : decode cX12_codeOf 6 = .ok (.iload_n 3, 1) := by decide +kernel
theorem dX12_codeOf_7 : decode cX12_codeOf 7 = .ok (.iaload, 1) := by decide +kernel
theorem dX12_codeOf_8 : decode cX12_codeOf 8 = .ok (.iload_n 2, 1) := by decide +kernel
theorem dX12_codeOf_9 : decode cX12_codeOf 9 = .ok (.iconst 1, 1) := by decide +kernel
theorem dX12_codeOf_10 : decode cX12_codeOf 10 = .ok (.iadd, 1) := by decide +kernel
theorem dX12_codeOf_11 : decode cX12_codeOf 11 = .ok (.if_icmp .le 13, 3) := by decide +kernel
theorem dX12_codeOf_14 : decode cX12_codeOf 14 = .ok (.aload_n 0, 1) := by decide +kernel
theorem dX12_codeOf_15 : decode cX12_codeOf 15 = .ok (.getfield 101, 3) := by decide +kernel
theorem dX12_codeOf_18 : decode cX12_codeOf 18 = .ok (.iload_n 3, 1) := by decide +kernel
theorem dX12_codeOf_19 : decode cX12_codeOf 19 = .ok (.iaload, 1) := by decide +kernel
theorem dX12_codeOf_20 : decode cX12_codeOf 20 = .ok (.istore_n 3, 1) := by decide +kernel
theorem dX12_codeOf_21 : decode cX12_codeOf 21 = .ok (.goto (-19), 3) := by decide +kernel
theorem dX12_codeOf_24 : decode cX12_codeOf 24 = .ok (.aload_n 0, 1) := by decide +kernel
theorem dX12_codeOf_25 : decode cX12_codeOf 25 = .ok (.getfield 104, 3) := by decide +kernel
theorem dX12_codeOf_28 : decode cX12_codeOf 28 = .ok (.iload_n 3, 1) := by decide +kernel
theorem dX12_codeOf_29 : decode cX12_codeOf 29 = .ok (.iaload, 1) := by decide +kernel
theorem dX12_codeOf_30 : decode cX12_codeOf 30 = .ok (.ireturn, 1) := by decide +kernel
theorem dX12_coin_0 : decode cX12_coin 0 = .ok (.iload_n 1, 1) := by decide +kernel
theorem dX12_coin_1 : decode cX12_coin 1 = .ok (.invokestatic 170, 3) := by decide +kernel
theorem dX12_coin_4 : decode cX12_coin 4 = .ok (.ifCond .eq 13, 3) := by decide +kernel
theorem dX12_coin_7 : decode cX12_coin 7 = .ok (.iload_n 2, 1) := by decide +kernel
theorem dX12_coin_8 : decode cX12_coin 8 = .ok (.iconst 0, 1) := by decide +kernel
theorem dX12_coin_9 : decode cX12_coin 9 = .ok (.bipush 15, 2) := by decide +kernel
theorem dX12_coin_11 : decode cX12_coin 11 = .ok (.invokestatic 1, 3) := by decide +kernel
theorem dX12_coin_14 : decode cX12_coin 14 = .ok (.ifCond .ne 5, 3) := by decide +kernel
theorem dX12_coin_17 : decode cX12_coin 17 = .ok (.iconst 0, 1) := by decide +kernel
theorem dX12_coin_18 : decode cX12_coin 18 = .ok (.ireturn, 1) := by decide +kernel
theorem dX12_coin_19 : decode cX12_coin 19 = .ok (.aload_n 0, 1) := by decide +kernel
theorem dX12_coin_20 : decode cX12_coin 20 = .ok (.aload_n 0, 1) := by decide +kernel
theorem dX12_coin_21 : decode cX12_coin 21 = .ok (.getfield 153, 3) := by decide +kernel
theorem dX12_coin_24 : decode cX12_coin 24 = .ok (.invokevirtual 174, 3) := by decide +kernel
theorem dX12_coin_27 : decode cX12_coin 27 = .ok (.aload_n 0, 1) := by decide +kernel
theorem dX12_coin_28 : decode cX12_coin 28 = .ok (.getfield 13, 3) := by decide +kernel
theorem dX12_coin_31 : decode cX12_coin 31 = .ok (.iload_n 1, 1) := by decide +kernel
theorem dX12_coin_32 : decode cX12_coin 32 = .ok (.iload_n 2, 1) := by decide +kernel
theorem dX12_coin_33 : decode cX12_coin 33 = .ok (.iastore, 1) := by decide +kernel
theorem dX12_coin_34 : decode cX12_coin 34 = .ok (.aload_n 0, 1) := by decide +kernel
theorem dX12_coin_35 : decode cX12_coin 35 = .ok (.invokevirtual 178, 3) := by decide +kernel
theorem dX12_coin_38 : decode cX12_coin 38 = .ok (.ireturn, 1) := by decide +kernel
theorem dX12_comesTo_0 : decode cX12_comesTo 0 = .ok (.iconst 0, 1) := by decide +kernel
theorem dX12_comesTo_1 : decode cX12_comesTo 1 = .ok (.istore 4, 2) := by decide +kernel
theorem dX12_comesTo_3 : decode cX12_comesTo 3 = .ok (.iload_n 2, 1) := by decide +kernel
theorem dX12_comesTo_4 : decode cX12_comesTo 4 = .ok (.istore 5, 2) := by decide +kernel
theorem dX12_comesTo_6 : decode cX12_comesTo 6 = .ok (.iload 5, 2) := by decide +kernel
theorem dX12_comesTo_8 : decode cX12_comesTo 8 = .ok (.iload_n 3, 1) := by decide +kernel
theorem dX12_comesTo_9 : decode cX12_comesTo 9 = .ok (.if_icmp .ge 136, 3) := by decide +kernel
theorem dX12_comesTo_12 : decode cX12_comesTo 12 = .ok (.aload_n 0, 1) := by decide +kernel
theorem dX12_comesTo_13 : decode cX12_comesTo 13 = .ok (.getfield 30, 3) := by decide +kernel
theorem dX12_comesTo_16 : decode cX12_comesTo 16 = .ok (.sipush 1440, 3) := by decide +kernel
theorem dX12_comesTo_19 : decode cX12_comesTo 19 = .ok (.iload_n 1, 1) := by decide +kernel
theorem dX12_comesTo_20 : decode cX12_comesTo 20 = .ok (.imul, 1) := by decide +kernel
theorem dX12_comesTo_21 : decode cX12_comesTo 21 = .ok (.iconst 2, 1) := by decide +kernel
theorem dX12_comesTo_22 : decode cX12_comesTo 22 = .ok (.iload 5, 2) := by decide +kernel
theorem dX12_comesTo_24 : decode cX12_comesTo 24 = .ok (.imul, 1) := by decide +kernel
theorem dX12_comesTo_25 : decode cX12_comesTo 25 = .ok (.iadd, 1) := by decide +kernel
theorem dX12_comesTo_26 : decode cX12_comesTo 26 = .ok (.iaload, 1) := by decide +kernel
theorem dX12_comesTo_27 : decode cX12_comesTo 27 = .ok (.istore 6, 2) := by decide +kernel
theorem dX12_comesTo_29 : decode cX12_comesTo 29 = .ok (.aload_n 0, 1) := by decide +kernel
theorem dX12_comesTo_30 : decode cX12_comesTo 30 = .ok (.getfield 30, 3) := by decide +kernel
theorem dX12_comesTo_33 : decode cX12_comesTo 33 = .ok (.sipush 1440, 3) := by decide +kernel
theorem dX12_comesTo_36 : decode cX12_comesTo 36 = .ok (.iload_n 1, 1) := by decide +kernel
theorem dX12_comesTo_37 : decode cX12_comesTo 37 = .ok (.imul, 1) := by decide +kernel
theorem dX12_comesTo_38 : decode cX12_comesTo 38 = .ok (.iconst 2, 1) := by decide +kernel
theorem dX12_comesTo_39 : decode cX12_comesTo 39 = .ok (.iload 5, 2) := by decide +kernel
theorem dX12_comesTo_41 : decode cX12_comesTo 41 = .ok (.imul, 1) := by decide +kernel
theorem dX12_comesTo_42 : decode cX12_comesTo 42 = .ok (.iadd, 1) := by decide +kernel
theorem dX12_comesTo_43 : decode cX12_comesTo 43 = .ok (.iconst 1, 1) := by decide +kernel
theorem dX12_comesTo_44 : decode cX12_comesTo 44 = .ok (.iadd, 1) := by decide +kernel
theorem dX12_comesTo_45 : decode cX12_comesTo 45 = .ok (.iaload, 1) := by decide +kernel
theorem dX12_comesTo_46 : decode cX12_comesTo 46 = .ok (.istore 7, 2) := by decide +kernel
theorem dX12_comesTo_48 : decode cX12_comesTo 48 = .ok (.iload 6, 2) := by decide +kernel
theorem dX12_comesTo_50 : decode cX12_comesTo 50 = .ok (.bipush 8, 2) := by decide +kernel
theorem dX12_comesTo_52 : decode cX12_comesTo 52 = .ok (.if_icmp .ge 24, 3) := by decide +kernel
theorem dX12_comesTo_55 : decode cX12_comesTo 55 = .ok (.aload_n 0, 1) := by decide +kernel
theorem dX12_comesTo_56 : decode cX12_comesTo 56 = .ok (.getfield 81, 3) := by decide +kernel
theorem dX12_comesTo_59 : decode cX12_comesTo 59 = .ok (.iload 4, 2) := by decide +kernel
theorem dX12_comesTo_61 : decode cX12_comesTo 61 = .ok (.aload_n 0, 1) := by decide +kernel
theorem dX12_comesTo_62 : decode cX12_comesTo 62 = .ok (.iload 6, 2) := by decide +kernel
theorem dX12_comesTo_64 : decode cX12_comesTo 64 = .ok (.iload 7, 2) := by decide +kernel
theorem dX12_comesTo_66 : decode cX12_comesTo 66 = .ok (.invokevirtual 373, 3) := by decide +kernel
theorem dX12_comesTo_69 : decode cX12_comesTo 69 = .ok (.iastore, 1) := by decide +kernel
theorem dX12_comesTo_70 : decode cX12_comesTo 70 = .ok (.iinc 4 1, 3) := by decide +kernel
theorem dX12_comesTo_73 : decode cX12_comesTo 73 = .ok (.goto 66, 3) := by decide +kernel
theorem dX12_comesTo_76 : decode cX12_comesTo 76 = .ok (.iload 6, 2) := by decide +kernel
theorem dX12_comesTo_78 : decode cX12_comesTo 78 = .ok (.bipush 14, 2) := by decide +kernel
theorem dX12_comesTo_80 : decode cX12_comesTo 80 = .ok (.if_icmp .ne 26, 3) := by decide +kernel
theorem dX12_comesTo_83 : decode cX12_comesTo 83 = .ok (.aload_n 0, 1) := by decide +kernel
theorem dX12_comesTo_84 : decode cX12_comesTo 84 = .ok (.getfield 81, 3) := by decide +kernel
theorem dX12_comesTo_87 : decode cX12_comesTo 87 = .ok (.iload 4, 2) := by decide +kernel
theorem dX12_comesTo_89 : decode cX12_comesTo 89 = .ok (.iconst 1, 1) := by decide +kernel
theorem dX12_comesTo_90 : decode cX12_comesTo 90 = .ok (.isub, 1) := by decide +kernel
theorem dX12_comesTo_91 : decode cX12_comesTo 91 = .ok (.iconst 1, 1) := by decide +kernel
theorem dX12_comesTo_92 : decode cX12_comesTo 92 = .ok (.aload_n 0, 1) := by decide +kernel
theorem dX12_comesTo_93 : decode cX12_comesTo 93 = .ok (.getfield 81, 3) := by decide +kernel
theorem dX12_comesTo_96 : decode cX12_comesTo 96 = .ok (.iload 4, 2) := by decide +kernel
theorem dX12_comesTo_98 : decode cX12_comesTo 98 = .ok (.iconst 1, 1) := by decide +kernel
theorem dX12_comesTo_99 : decode cX12_comesTo 99 = .ok (.isub, 1) := by decide +kernel
theorem dX12_comesTo_100 : decode cX12_comesTo 100 = .ok (.iaload, 1) := by decide +kernel
theorem dX12_comesTo_101 : decode cX12_comesTo 101 = .ok (.isub, 1) := by decide +kernel
theorem dX12_comesTo_102 : decode cX12_comesTo 102 = .ok (.iastore, 1) := by decide +kernel
theorem dX12_comesTo_103 : decode cX12_comesTo 103 = .ok (.goto 36, 3) := by decide +kernel
theorem dX12_comesTo_106 : decode cX12_comesTo 106 = .ok (.iinc 4 (-1), 3) := by decide +kernel
theorem dX12_comesTo_109 : decode cX12_comesTo 109 = .ok (.aload_n 0, 1) := by decide +kernel
theorem dX12_comesTo_110 : decode cX12_comesTo 110 = .ok (.getfield 81, 3) := by decide +kernel
theorem dX12_comesTo_113 : decode cX12_comesTo 113 = .ok (.iload 4, 2) := by decide +kernel
theorem dX12_comesTo_115 : decode cX12_comesTo 115 = .ok (.iconst 1, 1) := by decide +kernel
theorem dX12_comesTo_116 : decode cX12_comesTo 116 = .ok (.isub, 1) := by decide +kernel
theorem dX12_comesTo_117 : decode cX12_comesTo 117 = .ok (.iload 6, 2) := by decide +kernel
theorem dX12_comesTo_119 : decode cX12_comesTo 119 = .ok (.aload_n 0, 1) := by decide +kernel
theorem dX12_comesTo_120 : decode cX12_comesTo 120 = .ok (.getfield 81, 3) := by decide +kernel
theorem dX12_comesTo_123 : decode cX12_comesTo 123 = .ok (.iload 4, 2) := by decide +kernel
theorem dX12_comesTo_125 : decode cX12_comesTo 125 = .ok (.iconst 1, 1) := by decide +kernel
theorem dX12_comesTo_126 : decode cX12_comesTo 126 = .ok (.isub, 1) := by decide +kernel
theorem dX12_comesTo_127 : decode cX12_comesTo 127 = .ok (.iaload, 1) := by decide +kernel
theorem dX12_comesTo_128 : decode cX12_comesTo 128 = .ok (.aload_n 0, 1) := by decide +kernel
theorem dX12_comesTo_129 : decode cX12_comesTo 129 = .ok (.getfield 81, 3) := by decide +kernel
theorem dX12_comesTo_132 : decode cX12_comesTo 132 = .ok (.iload 4, 2) := by decide +kernel
theorem dX12_comesTo_134 : decode cX12_comesTo 134 = .ok (.iaload, 1) := by decide +kernel
theorem dX12_comesTo_135 : decode cX12_comesTo 135 = .ok (.invokestatic 376, 3) := by decide +kernel
theorem dX12_comesTo_138 : decode cX12_comesTo 138 = .ok (.iastore, 1) := by decide +kernel
theorem dX12_comesTo_139 : decode cX12_comesTo 139 = .ok (.iinc 5 1, 3) := by decide +kernel
theorem dX12_comesTo_142 : decode cX12_comesTo 142 = .ok (.goto (-136), 3) := by decide +kernel
theorem dX12_comesTo_145 : decode cX12_comesTo 145 = .ok (.aload_n 0, 1) := by decide +kernel
theorem dX12_comesTo_146 : decode cX12_comesTo 146 = .ok (.getfield 81, 3) := by decide +kernel
theorem dX12_comesTo_149 : decode cX12_comesTo 149 = .ok (.iconst 0, 1) := by decide +kernel
theorem dX12_comesTo_150 : decode cX12_comesTo 150 = .ok (.iaload, 1) := by decide +kernel
theorem dX12_comesTo_151 : decode cX12_comesTo 151 = .ok (.ireturn, 1) := by decide +kernel
theorem dX12_cure_0 : decode cX12_cure 0 = .ok (.aload_n 0, 1) := by decide +kernel
theorem dX12_cure_1 : decode cX12_cure 1 = .ok (.iconst 0, 1) := by decide +kernel
theorem dX12_cure_2 : decode cX12_cure 2 = .ok (.putfield 257, 3) := by decide +kernel
theorem dX12_cure_5 : decode cX12_cure 5 = .ok (.aload_n 0, 1) := by decide +kernel
theorem dX12_cure_6 : decode cX12_cure 6 = .ok (.getfield 358, 3) := by decide +kernel
theorem dX12_cure_9 : decode cX12_cure 9 = .ok (.iconst 5, 1) := by decide +kernel
theorem dX12_cure_10 : decode cX12_cure 10 = .ok (.if_icmp .eq 13, 3) := by decide +kernel
theorem dX12_cure_13 : decode cX12_cure 13 = .ok (.iload_n 1, 1) := by decide +kernel
theorem dX12_cure_14 : decode cX12_cure 14 = .ok (.iconst 0, 1) := by decide +kernel
theorem dX12_cure_15 : decode cX12_cure 15 = .ok (.bipush 11, 2) := by decide +kernel
theorem dX12_cure_17 : decode cX12_cure 17 = .ok (.invokestatic 1, 3) := by decide +kernel
theorem dX12_cure_20 : decode cX12_cure 20 = .ok (.ifCond .ne 9, 3) := by decide +kernel
theorem dX12_cure_23 : decode cX12_cure 23 = .ok (.aload_n 0, 1) := by decide +kernel
theorem dX12_cure_24 : decode cX12_cure 24 = .ok (.invokevirtual 336, 3) := by decide +kernel
theorem dX12_cure_27 : decode cX12_cure 27 = .ok (.iconst (-1), 1) := by decide +kernel
theorem dX12_cure_28 : decode cX12_cure 28 = .ok (.ireturn, 1) := by decide +kernel
theorem dX12_cure_29 : decode cX12_cure 29 = .ok (.aload_n 0, 1) := by decide +kernel
theorem dX12_cure_30 : decode cX12_cure 30 = .ok (.invokevirtual 355, 3) := by decide +kernel
theorem dX12_cure_33 : decode cX12_cure 33 = .ok (.ifCond .ne 5, 3) := by decide +kernel
theorem dX12_cure_36 : decode cX12_cure 36 = .ok (.iconst (-1), 1) := by decide +kernel
theorem dX12_cure_37 : decode cX12_cure 37 = .ok (.ireturn, 1) := by decide +kernel
theorem dX12_cure_38 : decode cX12_cure 38 = .ok (.aload_n 0, 1) := by decide +kernel
theorem dX12_cure_39 : decode cX12_cure 39 = .ok (.bipush 8, 2) := by decide +kernel
theorem dX12_cure_41 : decode cX12_cure 41 = .ok (.aload_n 0, 1) := by decide +kernel
theorem dX12_cure_42 : decode cX12_cure 42 = .ok (.getfield 358, 3) := by decide +kernel
theorem dX12_cure_45 : decode cX12_cure 45 = .ok (.iadd, 1) := by decide +kernel
theorem dX12_cure_46 : decode cX12_cure 46 = .ok (.invokevirtual 345, 3) := by decide +kernel
theorem dX12_cure_49 : decode cX12_cure 49 = .ok (.aload_n 0, 1) := by decide +kernel
theorem dX12_cure_50 : decode cX12_cure 50 = .ok (.getfield 88, 3) := by decide +kernel
theorem dX12_cure_53 : decode cX12_cure 53 = .ok (.aload_n 0, 1) := by decide +kernel
theorem dX12_cure_54 : decode cX12_cure 54 = .ok (.getfield 358, 3) := by decide +kernel
theorem dX12_cure_57 : decode cX12_cure 57 = .ok (.iload_n 1, 1) := by decide +kernel
theorem dX12_cure_58 : decode cX12_cure 58 = .ok (.iastore, 1) := by decide +kernel
theorem dX12_cure_59 : decode cX12_cure 59 = .ok (.aload_n 0, 1) := by decide +kernel
theorem dX12_cure_60 : decode cX12_cure 60 = .ok (.dup, 1) := by decide +kernel
theorem dX12_cure_61 : decode cX12_cure 61 = .ok (.getfield 358, 3) := by decide +kernel
theorem dX12_cure_64 : decode cX12_cure 64 = .ok (.iconst 1, 1) := by decide +kernel
theorem dX12_cure_65 : decode cX12_cure 65 = .ok (.iadd, 1) := by decide +kernel
theorem dX12_cure_66 : decode cX12_cure 66 = .ok (.putfield 358, 3) := by decide +kernel
theorem dX12_cure_69 : decode cX12_cure 69 = .ok (.aload_n 0, 1) := by decide +kernel
theorem dX12_cure_70 : decode cX12_cure 70 = .ok (.getfield 358, 3) := by decide +kernel
theorem dX12_cure_73 : decode cX12_cure 73 = .ok (.iconst 1, 1) := by decide +kernel
theorem dX12_cure_74 : decode cX12_cure 74 = .ok (.isub, 1) := by decide +kernel
theorem dX12_cure_75 : decode cX12_cure 75 = .ok (.ireturn, 1) := by decide +kernel
theorem dX12_day_0 : decode cX12_day 0 = .ok (.iload_n 1, 1) := by decide +kernel
theorem dX12_day_1 : decode cX12_day 1 = .ok (.iconst 0, 1) := by decide +kernel
theorem dX12_day_2 : decode cX12_day 2 = .ok (.bipush 15, 2) := by decide +kernel
theorem dX12_day_4 : decode cX12_day 4 = .ok (.invokestatic 1, 3) := by decide +kernel
theorem dX12_day_7 : decode cX12_day 7 = .ok (.ifCond .ne 5, 3) := by decide +kernel
theorem dX12_day_10 : decode cX12_day 10 = .ok (.iconst 0, 1) := by decide +kernel
theorem dX12_day_11 : decode cX12_day 11 = .ok (.ireturn, 1) := by decide +kernel
theorem dX12_day_12 : decode cX12_day 12 = .ok (.aload_n 0, 1) := by decide +kernel
theorem dX12_day_13 : decode cX12_day 13 = .ok (.aload_n 0, 1) := by decide +kernel
theorem dX12_day_14 : decode cX12_day 14 = .ok (.getfield 153, 3) := by decide +kernel
theorem dX12_day_17 : decode cX12_day 17 = .ok (.invokevirtual 174, 3) := by decide +kernel
theorem dX12_day_20 : decode cX12_day 20 = .ok (.aload_n 0, 1) := by decide +kernel
theorem dX12_day_21 : decode cX12_day 21 = .ok (.iload_n 1, 1) := by decide +kernel
theorem dX12_day_22 : decode cX12_day 22 = .ok (.putfield 157, 3) := by decide +kernel
theorem dX12_day_25 : decode cX12_day 25 = .ok (.aload_n 0, 1) := by decide +kernel
theorem dX12_day_26 : decode cX12_day 26 = .ok (.invokevirtual 178, 3) := by decide +kernel
theorem dX12_day_29 : decode cX12_day 29 = .ok (.ireturn, 1) := by decide +kernel
theorem dX12_debt_0 : decode cX12_debt 0 = .ok (.iload_n 1, 1) := by decide +kernel
theorem dX12_debt_1 : decode cX12_debt 1 = .ok (.invokestatic 170, 3) := by decide +kernel
theorem dX12_debt_4 : decode cX12_debt 4 = .ok (.ifCond .eq 25, 3) := by decide +kernel
theorem dX12_debt_7 : decode cX12_debt 7 = .ok (.iload_n 2, 1) := by decide +kernel
theorem dX12_debt_8 : decode cX12_debt 8 = .ok (.invokestatic 170, 3) := by decide +kernel
theorem dX12_debt_11 : decode cX12_debt 11 = .ok (.ifCond .eq 18, 3) := by decide +kernel
theorem dX12_debt_14 : decode cX12_debt 14 = .ok (.iload_n 1, 1) := by decide +kernel
theorem dX12_debt_15 : decode cX12_debt 15 = .ok (.iload_n 2, 1) := by decide +kernel
theorem dX12_debt_16 : decode cX12_debt 16 = .ok (.if_icmp .eq 13, 3) := by decide +kernel
theorem dX12_debt_19 : decode cX12_debt 19 = .ok (.iload_n 3, 1) := by decide +kernel
theorem dX12_debt_20 : decode cX12_debt 20 = .ok (.iconst 0, 1) := by decide +kernel
theorem dX12_debt_21 : decode cX12_debt 21 = .ok (.bipush 7, 2) := by decide +kernel
theorem dX12_debt_23 : decode cX12_debt 23 = .ok (.invokestatic 1, 3) := by decide +kernel
theorem dX12_debt_26 : decode cX12_debt 26 = .ok (.ifCond .ne 5, 3) := by decide +kernel
theorem dX12_debt_29 : decode cX12_debt 29 = .ok (.iconst 0, 1) := by decide +kernel
theorem dX12_debt_30 : decode cX12_debt 30 = .ok (.ireturn, 1) := by decide +kernel
theorem dX12_debt_31 : decode cX12_debt 31 = .ok (.aload_n 0, 1) := by decide +kernel
theorem dX12_debt_32 : decode cX12_debt 32 = .ok (.aload_n 0, 1) := by decide +kernel
theorem dX12_debt_33 : decode cX12_debt 33 = .ok (.getfield 153, 3) := by decide +kernel
theorem dX12_debt_36 : decode cX12_debt 36 = .ok (.invokevirtual 174, 3) := by decide +kernel
theorem dX12_debt_39 : decode cX12_debt 39 = .ok (.aload_n 0, 1) := by decide +kernel
theorem dX12_debt_40 : decode cX12_debt 40 = .ok (.getfield 17, 3) := by decide +kernel
theorem dX12_debt_43 : decode cX12_debt 43 = .ok (.iconst 3, 1) := by decide +kernel
theorem dX12_debt_44 : decode cX12_debt 44 = .ok (.iload_n 1, 1) := by decide +kernel
theorem dX12_debt_45 : decode cX12_debt 45 = .ok (.imul, 1) := by decide +kernel
theorem dX12_debt_46 : decode cX12_debt 46 = .ok (.iload_n 2, 1) := by decide +kernel
theorem dX12_debt_47 : decode cX12_debt 47 = .ok (.iadd, 1) := by decide +kernel
theorem dX12_debt_48 : decode cX12_debt 48 = .ok (.iload_n 3, 1) := by decide +kernel
theorem dX12_debt_49 : decode cX12_debt 49 = .ok (.iastore, 1) := by decide +kernel
theorem dX12_debt_50 : decode cX12_debt 50 = .ok (.aload_n 0, 1) := by decide +kernel
theorem dX12_debt_51 : decode cX12_debt 51 = .ok (.invokevirtual 178, 3) := by decide +kernel
theorem dX12_debt_54 : decode cX12_debt 54 = .ok (.ireturn, 1) := by decide +kernel
theorem dX12_end_0 : decode cX12_end 0 = .ok (.iload_n 1, 1) := by decide +kernel
theorem dX12_end_1 : decode cX12_end 1 = .ok (.iconst 0, 1) := by decide +kernel
theorem dX12_end_2 : decode cX12_end 2 = .ok (.aload_n 0, 1) := by decide +kernel
theorem dX12_end_3 : decode cX12_end 3 = .ok (.getfield 182, 3) := by decide +kernel
theorem dX12_end_6 : decode cX12_end 6 = .ok (.invokestatic 1, 3) := by decide +kernel
theorem dX12_end_9 : decode cX12_end 9 = .ok (.ifCond .ne 5, 3) := by decide +kernel
theorem dX12_end_12 : decode cX12_end 12 = .ok (.iconst 0, 1) := by decide +kernel
theorem dX12_end_13 : decode cX12_end 13 = .ok (.ireturn, 1) := by decide +kernel
theorem dX12_end_14 : decode cX12_end 14 = .ok (.aload_n 0, 1) := by decide +kernel
theorem dX12_end_15 : decode cX12_end 15 = .ok (.iload_n 1, 1) := by decide +kernel
theorem dX12_end_16 : decode cX12_end 16 = .ok (.putfield 182, 3) := by decide +kernel
theorem dX12_end_19 : decode cX12_end 19 = .ok (.iconst 1, 1) := by decide +kernel
theorem dX12_end_20 : decode cX12_end 20 = .ok (.ireturn, 1) := by decide +kernel
theorem dX12_ends_0 : decode cX12_ends 0 = .ok (.aload_n 0, 1) := by decide +kernel
theorem dX12_ends_1 : decode cX12_ends 1 = .ok (.iconst 0, 1) := by decide +kernel
theorem dX12_ends_2 : decode cX12_ends 2 = .ok (.putfield 182, 3) := by decide +kernel
theorem dX12_ends_5 : decode cX12_ends 5 = .ok (.aload_n 0, 1) := by decide +kernel
theorem dX12_ends_6 : decode cX12_ends 6 = .ok (.aload_n 0, 1) := by decide +kernel
theorem dX12_ends_7 : decode cX12_ends 7 = .ok (.getfield 257, 3) := by decide +kernel
theorem dX12_ends_10 : decode cX12_ends 10 = .ok (.putfield 333, 3) := by decide +kernel
theorem dX12_ends_13 : decode cX12_ends 13 = .ok (.aload_n 0, 1) := by decide +kernel
theorem dX12_ends_14 : decode cX12_ends 14 = .ok (.aload_n 0, 1) := by decide +kernel
theorem dX12_ends_15 : decode cX12_ends 15 = .ok (.getfield 257, 3) := by decide +kernel
theorem dX12_ends_18 : decode cX12_ends 18 = .ok (.ifCond .ne 7, 3) := by decide +kernel
theorem dX12_ends_21 : decode cX12_ends 21 = .ok (.iconst (-1), 1) := by decide +kernel
theorem dX12_ends_22 : decode cX12_ends 22 = .ok (.goto 7, 3) := by decide +kernel
theorem dX12_ends_25 : decode cX12_ends 25 = .ok (.aload_n 0, 1) := by decide +kernel
theorem dX12_ends_26 : decode cX12_ends 26 = .ok (.getfield 260, 3) := by decide +kernel
theorem dX12_ends_29 : decode cX12_ends 29 = .ok (.putfield 84, 3) := by decide +kernel
theorem dX12_ends_32 : decode cX12_ends 32 = .ok (.return_, 1) := by decide +kernel
theorem dX12_endsAt_0 : decode cX12_endsAt 0 = .ok (.iconst 0, 1) := by decide +kernel
theorem dX12_endsAt_1 : decode cX12_endsAt 1 = .ok (.istore_n 3, 1) := by decide +kernel
theorem dX12_endsAt_2 : decode cX12_endsAt 2 = .ok (.iconst 0, 1) := by decide +kernel
theorem dX12_endsAt_3 : decode cX12_endsAt 3 = .ok (.istore 4, 2) := by decide +kernel
theorem dX12_endsAt_5 : decode cX12_endsAt 5 = .ok (.iload 4, 2) := by decide +kernel
theorem dX12_endsAt_7 : decode cX12_endsAt 7 = .ok (.aload_n 0, 1) := by decide +kernel
theorem dX12_endsAt_8 : decode cX12_endsAt 8 = .ok (.getfield 470, 3) := by decide +kernel
theorem dX12_endsAt_11 : decode cX12_endsAt 11 = .ok (.if_icmp .ge 54, 3) := by decide +kernel
theorem dX12_endsAt_14 : decode cX12_endsAt 14 = .ok (.aload_n 0, 1) := by decide +kernel
theorem dX12_endsAt_15 : decode cX12_endsAt 15 = .ok (.getfield 146, 3) := by decide +kernel
theorem dX12_endsAt_18 : decode cX12_endsAt 18 = .ok (.iload 4, 2) := by decide +kernel
theorem dX12_endsAt_20 : decode cX12_endsAt 20 = .ok (.iaload, 1) := by decide +kernel
theorem dX12_endsAt_21 : decode cX12_endsAt 21 = .ok (.aload_n 0, 1) := by decide +kernel
theorem dX12_endsAt_22 : decode cX12_endsAt 22 = .ok (.iload_n 2, 1) := by decide +kernel
theorem dX12_endsAt_23 : decode cX12_endsAt 23 = .ok (.aload_n 0, 1) := by decide +kernel
theorem dX12_endsAt_24 : decode cX12_endsAt 24 = .ok (.getfield 137, 3) := by decide +kernel
theorem dX12_endsAt_27 : decode cX12_endsAt 27 = .ok (.bipush 12, 2) := by decide +kernel
theorem dX12_endsAt_29 : decode cX12_endsAt 29 = .ok (.iload_n 1, 1) := by decide +kernel
theorem dX12_endsAt_30 : decode cX12_endsAt 30 = .ok (.imul, 1) := by decide +kernel
theorem dX12_endsAt_31 : decode cX12_endsAt 31 = .ok (.iload_n 3, 1) := by decide +kernel
theorem dX12_endsAt_32 : decode cX12_endsAt 32 = .ok (.iadd, 1) := by decide +kernel
theorem dX12_endsAt_33 : decode cX12_endsAt 33 = .ok (.iaload, 1) := by decide +kernel
theorem dX12_endsAt_34 : decode cX12_endsAt 34 = .ok (.invokevirtual 473, 3) := by decide +kernel
theorem dX12_endsAt_37 : decode cX12_endsAt 37 = .ok (.if_icmp .eq 6, 3) := by decide +kernel
theorem dX12_endsAt_40 : decode cX12_endsAt 40 = .ok (.goto 19, 3) := by decide +kernel
theorem dX12_endsAt_43 : decode cX12_endsAt 43 = .ok (.iinc 3 1, 3) := by decide +kernel
theorem dX12_endsAt_46 : decode cX12_endsAt 46 = .ok (.iload_n 3, 1) := by decide +kernel
theorem dX12_endsAt_47 : decode cX12_endsAt 47 = .ok (.aload_n 0, 1) := by decide +kernel
theorem dX12_endsAt_48 : decode cX12_endsAt 48 = .ok (.getfield 140, 3) := by decide +kernel
theorem dX12_endsAt_51 : decode cX12_endsAt 51 = .ok (.iload_n 1, 1) := by decide +kernel
theorem dX12_endsAt_52 : decode cX12_endsAt 52 = .ok (.iaload, 1) := by decide +kernel
theorem dX12_endsAt_53 : decode cX12_endsAt 53 = .ok (.if_icmp .ne 6, 3) := by decide +kernel
theorem dX12_endsAt_56 : decode cX12_endsAt 56 = .ok (.iload 4, 2) := by decide +kernel
theorem dX12_endsAt_58 : decode cX12_endsAt 58 = .ok (.ireturn, 1) := by decide +kernel
theorem dX12_endsAt_59 : decode cX12_endsAt 59 = .ok (.iinc 4 1, 3) := by decide +kernel
theorem dX12_endsAt_62 : decode cX12_endsAt 62 = .ok (.goto (-57), 3) := by decide +kernel
theorem dX12_endsAt_65 : decode cX12_endsAt 65 = .ok (.iconst (-1), 1) := by decide +kernel
theorem dX12_endsAt_66 : decode cX12_endsAt 66 = .ok (.ireturn, 1) := by decide +kernel
theorem dX12_every_0 : decode cX12_every 0 = .ok (.aload_n 0, 1) := by decide +kernel
theorem dX12_every_1 : decode cX12_every 1 = .ok (.invokevirtual 304, 3) := by decide +kernel
theorem dX12_every_4 : decode cX12_every 4 = .ok (.ifCond .ne 5, 3) := by decide +kernel
theorem dX12_every_7 : decode cX12_every 7 = .ok (.iconst 0, 1) := by decide +kernel
theorem dX12_every_8 : decode cX12_every 8 = .ok (.ireturn, 1) := by decide +kernel
theorem dX12_every_9 : decode cX12_every 9 = .ok (.aload_n 0, 1) := by decide +kernel
theorem dX12_every_10 : decode cX12_every 10 = .ok (.getfield 242, 3) := by decide +kernel
theorem dX12_every_13 : decode cX12_every 13 = .ok (.sipush 313, 3) := by decide +kernel
theorem dX12_every_16 : decode cX12_every 16 = .ok (.if_icmp .ne 26, 3) := by decide +kernel
theorem dX12_every_19 : decode cX12_every 19 = .ok (.aload_n 0, 1) := by decide +kernel
theorem dX12_every_20 : decode cX12_every 20 = .ok (.invokevirtual 266, 3) := by decide +kernel
theorem dX12_every_23 : decode cX12_every 23 = .ok (.aload_n 0, 1) := by decide +kernel
theorem dX12_every_24 : decode cX12_every 24 = .ok (.invokevirtual 304, 3) := by decide +kernel
theorem dX12_every_27 : decode cX12_every 27 = .ok (.ifCond .ne 5, 3) := by decide +kernel
theorem dX12_every_30 : decode cX12_every 30 = .ok (.iconst 0, 1) := by decide +kernel
theorem dX12_every_31 : decode cX12_every 31 = .ok (.ireturn, 1) := by decide +kernel
theorem dX12_every_32 : decode cX12_every 32 = .ok (.aload_n 0, 1) := by decide +kernel
theorem dX12_every_33 : decode cX12_every 33 = .ok (.bipush 15, 2) := by decide +kernel
theorem dX12_every_35 : decode cX12_every 35 = .ok (.iconst 0, 1) := by decide +kernel
theorem dX12_every_36 : decode cX12_every 36 = .ok (.invokevirtual 288, 3) := by decide +kernel
theorem dX12_every_39 : decode cX12_every 39 = .ok (.goto (-30), 3) := by decide +kernel
theorem dX12_every_42 : decode cX12_every 42 = .ok (.iconst 1, 1) := by decide +kernel
theorem dX12_every_43 : decode cX12_every 43 = .ok (.ireturn, 1) := by decide +kernel
theorem dX12_fact_0 : decode cX12_fact 0 = .ok (.iload_n 2, 1) := by decide +kernel
theorem dX12_fact_1 : decode cX12_fact 1 = .ok (.ifCond .ne 10, 3) := by decide +kernel
theorem dX12_fact_4 : decode cX12_fact 4 = .ok (.aload_n 0, 1) := by decide +kernel
theorem dX12_fact_5 : decode cX12_fact 5 = .ok (.getfield 364, 3) := by decide +kernel
theorem dX12_fact_8 : decode cX12_fact 8 = .ok (.goto 7, 3) := by decide +kernel
theorem dX12_fact_11 : decode cX12_fact 11 = .ok (.aload_n 0, 1) := by decide +kernel
theorem dX12_fact_12 : decode cX12_fact 12 = .ok (.getfield 367, 3) := by decide +kernel
theorem dX12_fact_15 : decode cX12_fact 15 = .ok (.istore_n 3, 1) := by decide +kernel
theorem dX12_fact_16 : decode cX12_fact 16 = .ok (.iload_n 2, 1) := by decide +kernel
theorem dX12_fact_17 : decode cX12_fact 17 = .ok (.ifCond .ne 10, 3) := by decide +kernel
theorem dX12_fact_20 : decode cX12_fact 20 = .ok (.aload_n 0, 1) := by decide +kernel
theorem dX12_fact_21 : decode cX12_fact 21 = .ok (.getfield 367, 3) := by decide +kernel
theorem dX12_fact_24 : decode cX12_fact 24 = .ok (.goto 7, 3) := by decide +kernel
theorem dX12_fact_27 : decode cX12_fact 27 = .ok (.aload_n 0, 1) := by decide +kernel
theorem dX12_fact_28 : decode cX12_fact 28 = .ok (.getfield 364, 3) := by decide +kernel
theorem dX12_fact_31 : decode cX12_fact 31 = .ok (.istore 4, 2) := by decide +kernel
theorem dX12_fact_33 : decode cX12_fact 33 = .ok (.iload_n 1, 1) := by decide +kernel
theorem dX12_fact_34 : decode cX12_fact 34 = .ok (.ifCond .ne 5, 3) := by decide +kernel
theorem dX12_fact_37 : decode cX12_fact 37 = .ok (.iload_n 2, 1) := by decide +kernel
theorem dX12_fact_38 : decode cX12_fact 38 = .ok (.ireturn, 1) := by decide +kernel
theorem dX12_fact_39 : decode cX12_fact 39 = .ok (.iload_n 1, 1) := by decide +kernel
theorem dX12_fact_40 : decode cX12_fact 40 = .ok (.bipush 7, 2) := by decide +kernel
theorem dX12_fact_42 : decode cX12_fact 42 = .ok (.if_icmp .ne 8, 3) := by decide +kernel
theorem dX12_fact_45 : decode cX12_fact 45 = .ok (.aload_n 0, 1) := by decide +kernel
theorem dX12_fact_46 : decode cX12_fact 46 = .ok (.getfield 157, 3) := by decide +kernel
theorem dX12_fact_49 : decode cX12_fact 49 = .ok (.ireturn, 1) := by decide +kernel
theorem dX12_fact_50 : decode cX12_fact 50 = .ok (.iload_n 1, 1) := by decide +kernel
theorem dX12_fact_51 : decode cX12_fact 51 = .ok (.iconst 2, 1) := by decide +kernel
theorem dX12_fact_52 : decode cX12_fact 52 = .ok (.if_icmp .eq 13, 3) := by decide +kernel
theorem dX12_fact_55 : decode cX12_fact 55 = .ok (.iload_n 1, 1) := by decide +kernel
theorem dX12_fact_56 : decode cX12_fact 56 = .ok (.iconst 3, 1) := by decide +kernel
theorem dX12_fact_57 : decode cX12_fact 57 = .ok (.if_icmp .eq 8, 3) := by decide +kernel
theorem dX12_fact_60 : decode cX12_fact 60 = .ok (.iload_n 1, 1) := by decide +kernel
theorem dX12_fact_61 : decode cX12_fact 61 = .ok (.iconst 4, 1) := by decide +kernel
theorem dX12_fact_62 : decode cX12_fact 62 = .ok (.if_icmp .ne 7, 3) := by decide +kernel
theorem dX12_fact_65 : decode cX12_fact 65 = .ok (.iconst 1, 1) := by decide +kernel
theorem dX12_fact_66 : decode cX12_fact 66 = .ok (.goto 4, 3) := by decide +kernel
theorem dX12_fact_69 : decode cX12_fact 69 = .ok (.iconst 0, 1) := by decide +kernel
theorem dX12_fact_70 : decode cX12_fact 70 = .ok (.istore 5, 2) := by decide +kernel
theorem dX12_fact_72 : decode cX12_fact 72 = .ok (.iload_n 3, 1) := by decide +kernel
theorem dX12_fact_73 : decode cX12_fact 73 = .ok (.iconst 3, 1) := by decide +kernel
theorem dX12_fact_74 : decode cX12_fact 74 = .ok (.if_icmp .eq 14, 3) := by decide +kernel
theorem dX12_fact_77 : decode cX12_fact 77 = .ok (.iload 5, 2) := by decide +kernel
theorem dX12_fact_79 : decode cX12_fact 79 = .ok (.ifCond .eq 11, 3) := by decide +kernel
theorem dX12_fact_82 : decode cX12_fact 82 = .ok (.iload 4, 2) := by decide +kernel
theorem dX12_fact_84 : decode cX12_fact 84 = .ok (.iconst 3, 1) := by decide +kernel
theorem dX12_fact_85 : decode cX12_fact 85 = .ok (.if_icmp .ne 5, 3) := by decide +kernel
theorem dX12_fact_88 : decode cX12_fact 88 = .ok (.iconst 0, 1) := by decide +kernel
theorem dX12_fact_89 : decode cX12_fact 89 = .ok (.ireturn, 1) := by decide +kernel
theorem dX12_fact_90 : decode cX12_fact 90 = .ok (.iload_n 1, 1) := by decide +kernel
theorem dX12_fact_91 : decode cX12_fact 91 = .ok (.tableswitch 119 1 5 #[33, 40, 52, 72, 92], 33) := by decide +kernel
theorem dX12_fact_124 : decode cX12_fact 124 = .ok (.aload_n 0, 1) := by decide +kernel
theorem dX12_fact_125 : decode cX12_fact 125 = .ok (.getfield 13, 3) := by decide +kernel
theorem dX12_fact_128 : decode cX12_fact 128 = .ok (.iload_n 3, 1) := by decide +kernel
theorem dX12_fact_129 : decode cX12_fact 129 = .ok (.iaload, 1) := by decide +kernel
theorem dX12_fact_130 : decode cX12_fact 130 = .ok (.ireturn, 1) := by decide +kernel
theorem dX12_fact_131 : decode cX12_fact 131 = .ok (.aload_n 0, 1) := by decide +kernel
theorem dX12_fact_132 : decode cX12_fact 132 = .ok (.getfield 17, 3) := by decide +kernel
theorem dX12_fact_135 : decode cX12_fact 135 = .ok (.iconst 3, 1) := by decide +kernel
theorem dX12_fact_136 : decode cX12_fact 136 = .ok (.iload_n 3, 1) := by decide +kernel
theorem dX12_fact_137 : decode cX12_fact 137 = .ok (.imul, 1) := by decide +kernel
theorem dX12_fact_138 : decode cX12_fact 138 = .ok (.iload 4, 2) := by decide +kernel
theorem dX12_fact_140 : decode cX12_fact 140 = .ok (.iadd, 1) := by decide +kernel
theorem dX12_fact_141 : decode cX12_fact 141 = .ok (.iaload, 1) := by decide +kernel
theorem dX12_fact_142 : decode cX12_fact 142 = .ok (.ireturn, 1) := by decide +kernel
theorem dX12_fact_143 : decode cX12_fact 143 = .ok (.aload_n 0, 1) := by decide +kernel
theorem dX12_fact_144 : decode cX12_fact 144 = .ok (.getfield 23, 3) := by decide +kernel
theorem dX12_fact_147 : decode cX12_fact 147 = .ok (.iconst 3, 1) := by decide +kernel
theorem dX12_fact_148 : decode cX12_fact 148 = .ok (.iload_n 3, 1) := by decide +kernel
theorem dX12_fact_149 : decode cX12_fact 149 = .ok (.imul, 1) := by decide +kernel
theorem dX12_fact_150 : decode cX12_fact 150 = .ok (.iload 4, 2) := by decide +kernel
theorem dX12_fact_152 : decode cX12_fact 152 = .ok (.iadd, 1) := by decide +kernel
theorem dX12_fact_153 : decode cX12_fact 153 = .ok (.baload, 1) := by decide +kernel
theorem dX12_fact_154 : decode cX12_fact 154 = .ok (.ifCond .eq 7, 3) := by decide +kernel
theorem dX12_fact_157 : decode cX12_fact 157 = .ok (.iconst 1, 1) := by decide +kernel
theorem dX12_fact_158 : decode cX12_fact 158 = .ok (.goto 4, 3) := by decide +kernel
theorem dX12_fact_161 : decode cX12_fact 161 = .ok (.iconst 0, 1) := by decide +kernel
theorem dX12_fact_162 : decode cX12_fact 162 = .ok (.ireturn, 1) := by decide +kernel
theorem dX12_fact_163 : decode cX12_fact 163 = .ok (.aload_n 0, 1) := by decide +kernel
theorem dX12_fact_164 : decode cX12_fact 164 = .ok (.getfield 27, 3) := by decide +kernel
theorem dX12_fact_167 : decode cX12_fact 167 = .ok (.iconst 3, 1) := by decide +kernel
theorem dX12_fact_168 : decode cX12_fact 168 = .ok (.iload_n 3, 1) := by decide +kernel
theorem dX12_fact_169 : decode cX12_fact 169 = .ok (.imul, 1) := by decide +kernel
theorem dX12_fact_170 : decode cX12_fact 170 = .ok (.iload 4, 2) := by decide +kernel
theorem dX12_fact_172 : decode cX12_fact 172 = .ok (.iadd, 1) := by decide +kernel
theorem dX12_fact_173 : decode cX12_fact 173 = .ok (.baload, 1) := by decide +kernel
theorem dX12_fact_174 : decode cX12_fact 174 = .ok (.ifCond .eq 7, 3) := by decide +kernel
theorem dX12_fact_177 : decode cX12_fact 177 = .ok (.iconst 1, 1) := by decide +kernel
theorem dX12_fact_178 : decode cX12_fact 178 = .ok (.goto 4, 3) := by decide +kernel
theorem dX12_fact_181 : decode cX12_fact 181 = .ok (.iconst 0, 1) := by decide +kernel
theorem dX12_fact_182 : decode cX12_fact 182 = .ok (.ireturn, 1) := by decide +kernel
theorem dX12_fact_183 : decode cX12_fact 183 = .ok (.aload_n 0, 1) := by decide +kernel
theorem dX12_fact_184 : decode cX12_fact 184 = .ok (.getfield 370, 3) := by decide +kernel
theorem dX12_fact_187 : decode cX12_fact 187 = .ok (.iconst 3, 1) := by decide +kernel
theorem dX12_fact_188 : decode cX12_fact 188 = .ok (.if_icmp .eq 20, 3) := by decide +kernel
theorem dX12_fact_191 : decode cX12_fact 191 = .ok (.aload_n 0, 1) := by decide +kernel
theorem dX12_fact_192 : decode cX12_fact 192 = .ok (.getfield 20, 3) := by decide +kernel
theorem dX12_fact_195 : decode cX12_fact 195 = .ok (.aload_n 0, 1) := by decide +kernel
theorem dX12_fact_196 : decode cX12_fact 196 = .ok (.getfield 370, 3) := by decide +kernel
theorem dX12_fact_199 : decode cX12_fact 199 = .ok (.iaload, 1) := by decide +kernel
theorem dX12_fact_200 : decode cX12_fact 200 = .ok (.iload_n 3, 1) := by decide +kernel
theorem dX12_fact_201 : decode cX12_fact 201 = .ok (.if_icmp .ne 7, 3) := by decide +kernel
theorem dX12_fact_204 : decode cX12_fact 204 = .ok (.iconst 1, 1) := by decide +kernel
theorem dX12_fact_205 : decode cX12_fact 205 = .ok (.goto 4, 3) := by decide +kernel
theorem dX12_fact_208 : decode cX12_fact 208 = .ok (.iconst 0, 1) := by decide +kernel
theorem dX12_fact_209 : decode cX12_fact 209 = .ok (.ireturn, 1) := by decide +kernel
theorem dX12_fact_210 : decode cX12_fact 210 = .ok (.iconst 0, 1) := by decide +kernel
theorem dX12_fact_211 : decode cX12_fact 211 = .ok (.istore 6, 2) := by decide +kernel
theorem dX12_fact_213 : decode cX12_fact 213 = .ok (.iconst 0, 1) := by decide +kernel
theorem dX12_fact_214 : decode cX12_fact 214 = .ok (.istore 7, 2) := by decide +kernel
theorem dX12_fact_216 : decode cX12_fact 216 = .ok (.iload 7, 2) := by decide +kernel
theorem dX12_fact_218 : decode cX12_fact 218 = .ok (.iconst 3, 1) := by decide +kernel
theorem dX12_fact_219 : decode cX12_fact 219 = .ok (.if_icmp .ge 30, 3) := by decide +kernel
theorem dX12_fact_222 : decode cX12_fact 222 = .ok (.iload 6, 2) := by decide +kernel
theorem dX12_fact_224 : decode cX12_fact 224 = .ok (.aload_n 0, 1) := by decide +kernel
theorem dX12_fact_225 : decode cX12_fact 225 = .ok (.getfield 20, 3) := by decide +kernel
theorem dX12_fact_228 : decode cX12_fact 228 = .ok (.iload 7, 2) := by decide +kernel
theorem dX12_fact_230 : decode cX12_fact 230 = .ok (.iaload, 1) := by decide +kernel
theorem dX12_fact_231 : decode cX12_fact 231 = .ok (.iload_n 3, 1) := by decide +kernel
theorem dX12_fact_232 : decode cX12_fact 232 = .ok (.if_icmp .ne 7, 3) := by decide +kernel
theorem dX12_fact_235 : decode cX12_fact 235 = .ok (.iconst 1, 1) := by decide +kernel
theorem dX12_fact_236 : decode cX12_fact 236 = .ok (.goto 4, 3) := by decide +kernel
theorem dX12_fact_239 : decode cX12_fact 239 = .ok (.iconst 0, 1) := by decide +kernel
theorem dX12_fact_240 : decode cX12_fact 240 = .ok (.iadd, 1) := by decide +kernel
theorem dX12_fact_241 : decode cX12_fact 241 = .ok (.istore 6, 2) := by decide +kernel
theorem dX12_fact_243 : decode cX12_fact 243 = .ok (.iinc 7 1, 3) := by decide +kernel
theorem dX12_fact_246 : decode cX12_fact 246 = .ok (.goto (-30), 3) := by decide +kernel
theorem dX12_fact_249 : decode cX12_fact 249 = .ok (.iload 6, 2) := by decide +kernel
theorem dX12_fact_251 : decode cX12_fact 251 = .ok (.ireturn, 1) := by decide +kernel
theorem dX12_fault_0 : decode cX12_fault 0 = .ok (.iload_n 1, 1) := by decide +kernel
theorem dX12_fault_1 : decode cX12_fault 1 = .ok (.ifCond .ne 10, 3) := by decide +kernel
theorem dX12_fault_4 : decode cX12_fault 4 = .ok (.aload_n 0, 1) := by decide +kernel
theorem dX12_fault_5 : decode cX12_fault 5 = .ok (.getfield 333, 3) := by decide +kernel
theorem dX12_fault_8 : decode cX12_fault 8 = .ok (.goto 16, 3) := by decide +kernel
theorem dX12_fault_11 : decode cX12_fault 11 = .ok (.iload_n 1, 1) := by decide +kernel
theorem dX12_fault_12 : decode cX12_fault 12 = .ok (.iconst 1, 1) := by decide +kernel
theorem dX12_fault_13 : decode cX12_fault 13 = .ok (.if_icmp .ne 10, 3) := by decide +kernel
theorem dX12_fault_16 : decode cX12_fault 16 = .ok (.aload_n 0, 1) := by decide +kernel
theorem dX12_fault_17 : decode cX12_fault 17 = .ok (.getfield 84, 3) := by decide +kernel
theorem dX12_fault_20 : decode cX12_fault 20 = .ok (.goto 4, 3) := by decide +kernel
theorem dX12_fault_23 : decode cX12_fault 23 = .ok (.iconst (-1), 1) := by decide +kernel
theorem dX12_fault_24 : decode cX12_fault 24 = .ok (.ireturn, 1) := by decide +kernel
theorem dX12_feed_0 : decode cX12_feed 0 = .ok (.aload_n 0, 1) := by decide +kernel
theorem dX12_feed_1 : decode cX12_feed 1 = .ok (.getfield 182, 3) := by decide +kernel
theorem dX12_feed_4 : decode cX12_feed 4 = .ok (.bipush 20, 2) := by decide +kernel
theorem dX12_feed_6 : decode cX12_feed 6 = .ok (.iadd, 1) := by decide +kernel
theorem dX12_feed_7 : decode cX12_feed 7 = .ok (.sipush 700, 3) := by decide +kernel
theorem dX12_feed_10 : decode cX12_feed 10 = .ok (.if_icmp .le 5, 3) := by decide +kernel
theorem dX12_feed_13 : decode cX12_feed 13 = .ok (.iconst (-1), 1) := by decide +kernel
theorem dX12_feed_14 : decode cX12_feed 14 = .ok (.ireturn, 1) := by decide +kernel
theorem dX12_feed_15 : decode cX12_feed 15 = .ok (.iconst 0, 1) := by decide +kernel
theorem dX12_feed_16 : decode cX12_feed 16 = .ok (.istore 6, 2) := by decide +kernel
theorem dX12_feed_18 : decode cX12_feed 18 = .ok (.iload 6, 2) := by decide +kernel
theorem dX12_feed_20 : decode cX12_feed 20 = .ok (.bipush 20, 2) := by decide +kernel
theorem dX12_feed_22 : decode cX12_feed 22 = .ok (.if_icmp .ge 93, 3) := by decide +kernel
theorem dX12_feed_25 : decode cX12_feed 25 = .ok (.iload 6, 2) := by decide +kernel
theorem dX12_feed_27 : decode cX12_feed 27 = .ok (.iconst 4, 1) := by decide +kernel
theorem dX12_feed_28 : decode cX12_feed 28 = .ok (.if_icmp .ge 7, 3) := by decide +kernel
theorem dX12_feed_31 : decode cX12_feed 31 = .ok (.iload_n 1, 1) := by decide +kernel
theorem dX12_feed_32 : decode cX12_feed 32 = .ok (.goto 39, 3) := by decide +kernel
theorem dX12_feed_35 : decode cX12_feed 35 = .ok (.iload 6, 2) := by decide +kernel
theorem dX12_feed_37 : decode cX12_feed 37 = .ok (.bipush 8, 2) := by decide +kernel
theorem dX12_feed_39 : decode cX12_feed 39 = .ok (.if_icmp .ge 7, 3) := by decide +kernel
theorem dX12_feed_42 : decode cX12_feed 42 = .ok (.iload_n 2, 1) := by decide +kernel
theorem dX12_feed_43 : decode cX12_feed 43 = .ok (.goto 28, 3) := by decide +kernel
theorem dX12_feed_46 : decode cX12_feed 46 = .ok (.iload 6, 2) := by decide +kernel
theorem dX12_feed_48 : decode cX12_feed 48 = .ok (.bipush 12, 2) := by decide +kernel
theorem dX12_feed_50 : decode cX12_feed 50 = .ok (.if_icmp .ge 7, 3) := by decide +kernel
theorem dX12_feed_53 : decode cX12_feed 53 = .ok (.iload_n 3, 1) := by decide +kernel
theorem dX12_feed_54 : decode cX12_feed 54 = .ok (.goto 17, 3) := by decide +kernel
theorem dX12_feed_57 : decode cX12_feed 57 = .ok (.iload 6, 2) := by decide +kernel
theorem dX12_feed_59 : decode cX12_feed 59 = .ok (.bipush 16, 2) := by decide +kernel
theorem dX12_feed_61 : decode cX12_feed 61 = .ok (.if_icmp .ge 8, 3) := by decide +kernel
theorem dX12_feed_64 : decode cX12_feed 64 = .ok (.iload 4, 2) := by decide +kernel
theorem dX12_feed_66 : decode cX12_feed 66 = .ok (.goto 5, 3) := by decide +kernel
theorem dX12_feed_69 : decode cX12_feed 69 = .ok (.iload 5, 2) := by decide +kernel
theorem dX12_feed_71 : decode cX12_feed 71 = .ok (.istore 7, 2) := by decide +kernel
theorem dX12_feed_73 : decode cX12_feed 73 = .ok (.aload_n 0, 1) := by decide +kernel
theorem dX12_feed_74 : decode cX12_feed 74 = .ok (.getfield 78, 3) := by decide +kernel
theorem dX12_feed_77 : decode cX12_feed 77 = .ok (.aload_n 0, 1) := by decide +kernel
theorem dX12_feed_78 : decode cX12_feed 78 = .ok (.getfield 182, 3) := by decide +kernel
theorem dX12_feed_81 : decode cX12_feed 81 = .ok (.iload 7, 2) := by decide +kernel
theorem dX12_feed_83 : decode cX12_feed 83 = .ok (.bipush 24, 2) := by decide +kernel
theorem dX12_feed_85 : decode cX12_feed 85 = .ok (.bipush 8, 2) := by decide +kernel
theorem dX12_feed_87 : decode cX12_feed 87 = .ok (.iload 6, 2) := by decide +kernel
theorem dX12_feed_89 : decode cX12_feed 89 = .ok (.iconst 4, 1) := by decide +kernel
theorem dX12_feed_90 : decode cX12_feed 90 = .ok (.irem, 1) := by decide +kernel
theorem dX12_feed_91 : decode cX12_feed 91 = .ok (.imul, 1) := by decide +kernel
theorem dX12_feed_92 : decode cX12_feed 92 = .ok (.isub, 1) := by decide +kernel
theorem dX12_feed_93 : decode cX12_feed 93 = .ok (.ishr, 1) := by decide +kernel
theorem dX12_feed_94 : decode cX12_feed 94 = .ok (.sipush 255, 3) := by decide +kernel
theorem dX12_feed_97 : decode cX12_feed 97 = .ok (.iand, 1) := by decide +kernel
theorem dX12_feed_98 : decode cX12_feed 98 = .ok (.iastore, 1) := by decide +kernel
theorem dX12_feed_99 : decode cX12_feed 99 = .ok (.aload_n 0, 1) := by decide +kernel
theorem dX12_feed_100 : decode cX12_feed 100 = .ok (.dup, 1) := by decide +kernel
theorem dX12_feed_101 : decode cX12_feed 101 = .ok (.getfield 182, 3) := by decide +kernel
theorem dX12_feed_104 : decode cX12_feed 104 = .ok (.iconst 1, 1) := by decide +kernel
theorem dX12_feed_105 : decode cX12_feed 105 = .ok (.iadd, 1) := by decide +kernel
theorem dX12_feed_106 : decode cX12_feed 106 = .ok (.putfield 182, 3) := by decide +kernel
theorem dX12_feed_109 : decode cX12_feed 109 = .ok (.iinc 6 1, 3) := by decide +kernel
theorem dX12_feed_112 : decode cX12_feed 112 = .ok (.goto (-94), 3) := by decide +kernel
theorem dX12_feed_115 : decode cX12_feed 115 = .ok (.aload_n 0, 1) := by decide +kernel
theorem dX12_feed_116 : decode cX12_feed 116 = .ok (.getfield 182, 3) := by decide +kernel
theorem dX12_feed_119 : decode cX12_feed 119 = .ok (.ireturn, 1) := by decide +kernel
theorem dX12_friends_0 : decode cX12_friends 0 = .ok (.aload_n 0, 1) := by decide +kernel
theorem dX12_friends_1 : decode cX12_friends 1 = .ok (.iload_n 1, 1) := by decide +kernel
theorem dX12_friends_2 : decode cX12_friends 2 = .ok (.invokevirtual 430, 3) := by decide +kernel
theorem dX12_friends_5 : decode cX12_friends 5 = .ok (.ifCond .eq 12, 3) := by decide +kernel
theorem dX12_friends_8 : decode cX12_friends 8 = .ok (.aload_n 0, 1) := by decide +kernel
theorem dX12_friends_9 : decode cX12_friends 9 = .ok (.iload_n 2, 1) := by decide +kernel
theorem dX12_friends_10 : decode cX12_friends 10 = .ok (.iload_n 3, 1) := by decide +kernel
theorem dX12_friends_11 : decode cX12_friends 11 = .ok (.invokevirtual 433, 3) := by decide +kernel
theorem dX12_friends_14 : decode cX12_friends 14 = .ok (.ifCond .ne 5, 3) := by decide +kernel
theorem dX12_friends_17 : decode cX12_friends 17 = .ok (.iconst (-1), 1) := by decide +kernel
theorem dX12_friends_18 : decode cX12_friends 18 = .ok (.ireturn, 1) := by decide +kernel
theorem dX12_friends_19 : decode cX12_friends 19 = .ok (.iconst 1, 1) := by decide +kernel
theorem dX12_friends_20 : decode cX12_friends 20 = .ok (.istore 4, 2) := by decide +kernel
theorem dX12_friends_22 : decode cX12_friends 22 = .ok (.iload 4, 2) := by decide +kernel
theorem dX12_friends_24 : decode cX12_friends 24 = .ok (.iconst 4, 1) := by decide +kernel
theorem dX12_friends_25 : decode cX12_friends 25 = .ok (.if_icmp .ge 59, 3) := by decide +kernel
theorem dX12_friends_28 : decode cX12_friends 28 = .ok (.iconst 1, 1) := by decide +kernel
theorem dX12_friends_29 : decode cX12_friends 29 = .ok (.istore 5, 2) := by decide +kernel
theorem dX12_friends_31 : decode cX12_friends 31 = .ok (.iload 5, 2) := by decide +kernel
theorem dX12_friends_33 : decode cX12_friends 33 = .ok (.bipush 8, 2) := by decide +kernel
theorem dX12_friends_35 : decode cX12_friends 35 = .ok (.if_icmp .ge 43, 3) := by decide +kernel
theorem dX12_friends_38 : decode cX12_friends 38 = .ok (.iload 5, 2) := by decide +kernel
theorem dX12_friends_40 : decode cX12_friends 40 = .ok (.invokestatic 442, 3) := by decide +kernel
theorem dX12_friends_43 : decode cX12_friends 43 = .ok (.iload 4, 2) := by decide +kernel
theorem dX12_friends_45 : decode cX12_friends 45 = .ok (.if_icmp .eq 6, 3) := by decide +kernel
theorem dX12_friends_48 : decode cX12_friends 48 = .ok (.goto 24, 3) := by decide +kernel
theorem dX12_friends_51 : decode cX12_friends 51 = .ok (.aload_n 0, 1) := by decide +kernel
theorem dX12_friends_52 : decode cX12_friends 52 = .ok (.iload_n 1, 1) := by decide +kernel
theorem dX12_friends_53 : decode cX12_friends 53 = .ok (.iload_n 2, 1) := by decide +kernel
theorem dX12_friends_54 : decode cX12_friends 54 = .ok (.iload_n 3, 1) := by decide +kernel
theorem dX12_friends_55 : decode cX12_friends 55 = .ok (.iload 5, 2) := by decide +kernel
theorem dX12_friends_57 : decode cX12_friends 57 = .ok (.iconst 0, 1) := by decide +kernel
theorem dX12_friends_58 : decode cX12_friends 58 = .ok (.invokevirtual 436, 3) := by decide +kernel
theorem dX12_friends_61 : decode cX12_friends 61 = .ok (.aload_n 0, 1) := by decide +kernel
theorem dX12_friends_62 : decode cX12_friends 62 = .ok (.getfield 411, 3) := by decide +kernel
theorem dX12_friends_65 : decode cX12_friends 65 = .ok (.iconst (-1), 1) := by decide +kernel
theorem dX12_friends_66 : decode cX12_friends 66 = .ok (.if_icmp .eq 6, 3) := by decide +kernel
theorem dX12_friends_69 : decode cX12_friends 69 = .ok (.iload 5, 2) := by decide +kernel
theorem dX12_friends_71 : decode cX12_friends 71 = .ok (.ireturn, 1) := by decide +kernel
theorem dX12_friends_72 : decode cX12_friends 72 = .ok (.iinc 5 1, 3) := by decide +kernel
theorem dX12_friends_75 : decode cX12_friends 75 = .ok (.goto (-44), 3) := by decide +kernel
theorem dX12_friends_78 : decode cX12_friends 78 = .ok (.iinc 4 1, 3) := by decide +kernel
theorem dX12_friends_81 : decode cX12_friends 81 = .ok (.goto (-59), 3) := by decide +kernel
theorem dX12_friends_84 : decode cX12_friends 84 = .ok (.iconst (-1), 1) := by decide +kernel
theorem dX12_friends_85 : decode cX12_friends 85 = .ok (.ireturn, 1) := by decide +kernel
theorem dX12_gain_0 : decode cX12_gain 0 = .ok (.iload_n 1, 1) := by decide +kernel
theorem dX12_gain_1 : decode cX12_gain 1 = .ok (.invokestatic 170, 3) := by decide +kernel
theorem dX12_gain_4 : decode cX12_gain 4 = .ok (.ifCond .eq 23, 3) := by decide +kernel
theorem dX12_gain_7 : decode cX12_gain 7 = .ok (.aload_n 0, 1) := by decide +kernel
theorem dX12_gain_8 : decode cX12_gain 8 = .ok (.iload_n 2, 1) := by decide +kernel
theorem dX12_gain_9 : decode cX12_gain 9 = .ok (.iload_n 3, 1) := by decide +kernel
theorem dX12_gain_10 : decode cX12_gain 10 = .ok (.invokevirtual 433, 3) := by decide +kernel
theorem dX12_gain_13 : decode cX12_gain 13 = .ok (.ifCond .eq 14, 3) := by decide +kernel
theorem dX12_gain_16 : decode cX12_gain 16 = .ok (.iload 4, 2) := by decide +kernel
theorem dX12_gain_18 : decode cX12_gain 18 = .ok (.iconst 0, 1) := by decide +kernel
theorem dX12_gain_19 : decode cX12_gain 19 = .ok (.bipush 7, 2) := by decide +kernel
theorem dX12_gain_21 : decode cX12_gain 21 = .ok (.invokestatic 1, 3) := by decide +kernel
theorem dX12_gain_24 : decode cX12_gain 24 = .ok (.ifCond .ne 6, 3) := by decide +kernel
theorem dX12_gain_27 : decode cX12_gain 27 = .ok (.bipush (-100), 2) := by decide +kernel
theorem dX12_gain_29 : decode cX12_gain 29 = .ok (.ireturn, 1) := by decide +kernel
theorem dX12_gain_30 : decode cX12_gain 30 = .ok (.aload_n 0, 1) := by decide +kernel
theorem dX12_gain_31 : decode cX12_gain 31 = .ok (.iconst (-1), 1) := by decide +kernel
theorem dX12_gain_32 : decode cX12_gain 32 = .ok (.iload_n 2, 1) := by decide +kernel
theorem dX12_gain_33 : decode cX12_gain 33 = .ok (.iload_n 3, 1) := by decide +kernel
theorem dX12_gain_34 : decode cX12_gain 34 = .ok (.bipush 7, 2) := by decide +kernel
theorem dX12_gain_36 : decode cX12_gain 36 = .ok (.iconst 0, 1) := by decide +kernel
theorem dX12_gain_37 : decode cX12_gain 37 = .ok (.invokevirtual 436, 3) := by decide +kernel
theorem dX12_gain_40 : decode cX12_gain 40 = .ok (.aload_n 0, 1) := by decide +kernel
theorem dX12_gain_41 : decode cX12_gain 41 = .ok (.getfield 408, 3) := by decide +kernel
theorem dX12_gain_44 : decode cX12_gain 44 = .ok (.ifCond .eq 6, 3) := by decide +kernel
theorem dX12_gain_47 : decode cX12_gain 47 = .ok (.bipush (-101), 2) := by decide +kernel
theorem dX12_gain_49 : decode cX12_gain 49 = .ok (.ireturn, 1) := by decide +kernel
theorem dX12_gain_50 : decode cX12_gain 50 = .ok (.iconst (-1), 1) := by decide +kernel
theorem dX12_gain_51 : decode cX12_gain 51 = .ok (.istore 5, 2) := by decide +kernel
theorem dX12_gain_53 : decode cX12_gain 53 = .ok (.iconst 0, 1) := by decide +kernel
theorem dX12_gain_54 : decode cX12_gain 54 = .ok (.istore 6, 2) := by decide +kernel
theorem dX12_gain_56 : decode cX12_gain 56 = .ok (.iconst 0, 1) := by decide +kernel
theorem dX12_gain_57 : decode cX12_gain 57 = .ok (.istore 7, 2) := by decide +kernel
theorem dX12_gain_59 : decode cX12_gain 59 = .ok (.iload 7, 2) := by decide +kernel
theorem dX12_gain_61 : decode cX12_gain 61 = .ok (.aload_n 0, 1) := by decide +kernel
theorem dX12_gain_62 : decode cX12_gain 62 = .ok (.getfield 405, 3) := by decide +kernel
theorem dX12_gain_65 : decode cX12_gain 65 = .ok (.if_icmp .ge 82, 3) := by decide +kernel
theorem dX12_gain_68 : decode cX12_gain 68 = .ok (.aload_n 0, 1) := by decide +kernel
theorem dX12_gain_69 : decode cX12_gain 69 = .ok (.aload_n 0, 1) := by decide +kernel
theorem dX12_gain_70 : decode cX12_gain 70 = .ok (.getfield 97, 3) := by decide +kernel
theorem dX12_gain_73 : decode cX12_gain 73 = .ok (.iload 7, 2) := by decide +kernel
theorem dX12_gain_75 : decode cX12_gain 75 = .ok (.laload, 1) := by decide +kernel
theorem dX12_gain_76 : decode cX12_gain 76 = .ok (.invokevirtual 174, 3) := by decide +kernel
theorem dX12_gain_79 : decode cX12_gain 79 = .ok (.aload_n 0, 1) := by decide +kernel
theorem dX12_gain_80 : decode cX12_gain 80 = .ok (.getfield 13, 3) := by decide +kernel
theorem dX12_gain_83 : decode cX12_gain 83 = .ok (.iload_n 1, 1) := by decide +kernel
theorem dX12_gain_84 : decode cX12_gain 84 = .ok (.iaload, 1) := by decide +kernel
theorem dX12_gain_85 : decode cX12_gain 85 = .ok (.aload_n 0, 1) := by decide +kernel
theorem dX12_gain_86 : decode cX12_gain 86 = .ok (.getfield 17, 3) := by decide +kernel
theorem dX12_gain_89 : decode cX12_gain 89 = .ok (.iconst 3, 1) := by decide +kernel
theorem dX12_gain_90 : decode cX12_gain 90 = .ok (.iload_n 1, 1) := by decide +kernel
theorem dX12_gain_91 : decode cX12_gain 91 = .ok (.imul, 1) := by decide +kernel
theorem dX12_gain_92 : decode cX12_gain 92 = .ok (.iload_n 1, 1) := by decide +kernel
theorem dX12_gain_93 : decode cX12_gain 93 = .ok (.iconst 0, 1) := by decide +kernel
theorem dX12_gain_94 : decode cX12_gain 94 = .ok (.invokestatic 160, 3) := by decide +kernel
theorem dX12_gain_97 : decode cX12_gain 97 = .ok (.iadd, 1) := by decide +kernel
theorem dX12_gain_98 : decode cX12_gain 98 = .ok (.iaload, 1) := by decide +kernel
theorem dX12_gain_99 : decode cX12_gain 99 = .ok (.isub, 1) := by decide +kernel
theorem dX12_gain_100 : decode cX12_gain 100 = .ok (.aload_n 0, 1) := by decide +kernel
theorem dX12_gain_101 : decode cX12_gain 101 = .ok (.getfield 17, 3) := by decide +kernel
theorem dX12_gain_104 : decode cX12_gain 104 = .ok (.iconst 3, 1) := by decide +kernel
theorem dX12_gain_105 : decode cX12_gain 105 = .ok (.iload_n 1, 1) := by decide +kernel
theorem dX12_gain_106 : decode cX12_gain 106 = .ok (.imul, 1) := by decide +kernel
theorem dX12_gain_107 : decode cX12_gain 107 = .ok (.iload_n 1, 1) := by decide +kernel
theorem dX12_gain_108 : decode cX12_gain 108 = .ok (.iconst 1, 1) := by decide +kernel
theorem dX12_gain_109 : decode cX12_gain 109 = .ok (.invokestatic 160, 3) := by decide +kernel
theorem dX12_gain_112 : decode cX12_gain 112 = .ok (.iadd, 1) := by decide +kernel
theorem dX12_gain_113 : decode cX12_gain 113 = .ok (.iaload, 1) := by decide +kernel
theorem dX12_gain_114 : decode cX12_gain 114 = .ok (.isub, 1) := by decide +kernel
theorem dX12_gain_115 : decode cX12_gain 115 = .ok (.istore 8, 2) := by decide +kernel
theorem dX12_gain_117 : decode cX12_gain 117 = .ok (.iload 5, 2) := by decide +kernel
theorem dX12_gain_119 : decode cX12_gain 119 = .ok (.iconst (-1), 1) := by decide +kernel
theorem dX12_gain_120 : decode cX12_gain 120 = .ok (.if_icmp .eq 13, 3) := by decide +kernel
theorem dX12_gain_123 : decode cX12_gain 123 = .ok (.iload 8, 2) := by decide +kernel
theorem dX12_gain_125 : decode cX12_gain 125 = .ok (.iload 6, 2) := by decide +kernel
theorem dX12_gain_127 : decode cX12_gain 127 = .ok (.if_icmp .gt 6, 3) := by decide +kernel
theorem dX12_gain_130 : decode cX12_gain 130 = .ok (.goto 11, 3) := by decide +kernel
theorem dX12_gain_133 : decode cX12_gain 133 = .ok (.iload 7, 2) := by decide +kernel
theorem dX12_gain_135 : decode cX12_gain 135 = .ok (.istore 5, 2) := by decide +kernel
theorem dX12_gain_137 : decode cX12_gain 137 = .ok (.iload 8, 2) := by decide +kernel
theorem dX12_gain_139 : decode cX12_gain 139 = .ok (.istore 6, 2) := by decide +kernel
theorem dX12_gain_141 : decode cX12_gain 141 = .ok (.iinc 7 1, 3) := by decide +kernel
theorem dX12_gain_144 : decode cX12_gain 144 = .ok (.goto (-85), 3) := by decide +kernel
theorem dX12_gain_147 : decode cX12_gain 147 = .ok (.iload 4, 2) := by decide +kernel
theorem dX12_gain_149 : decode cX12_gain 149 = .ok (.iconst 2, 1) := by decide +kernel
theorem dX12_gain_150 : decode cX12_gain 150 = .ok (.if_icmp .ge 21, 3) := by decide +kernel
theorem dX12_gain_153 : decode cX12_gain 153 = .ok (.iload 4, 2) := by decide +kernel
theorem dX12_gain_155 : decode cX12_gain 155 = .ok (.ifCond .ne 8, 3) := by decide +kernel
theorem dX12_gain_158 : decode cX12_gain 158 = .ok (.iload 6, 2) := by decide +kernel
theorem dX12_gain_160 : decode cX12_gain 160 = .ok (.goto 10, 3) := by decide +kernel
theorem dX12_gain_163 : decode cX12_gain 163 = .ok (.aload_n 0, 1) := by decide +kernel
theorem dX12_gain_164 : decode cX12_gain 164 = .ok (.getfield 107, 3) := by decide +kernel
theorem dX12_gain_167 : decode cX12_gain 167 = .ok (.iload 5, 2) := by decide +kernel
theorem dX12_gain_169 : decode cX12_gain 169 = .ok (.iaload, 1) := by decide +kernel
theorem dX12_gain_170 : decode cX12_gain 170 = .ok (.ireturn, 1) := by decide +kernel
theorem dX12_gain_171 : decode cX12_gain 171 = .ok (.iload 4, 2) := by decide +kernel
theorem dX12_gain_173 : decode cX12_gain 173 = .ok (.iconst 2, 1) := by decide +kernel
theorem dX12_gain_174 : decode cX12_gain 174 = .ok (.isub, 1) := by decide +kernel
theorem dX12_gain_175 : decode cX12_gain 175 = .ok (.aload_n 0, 1) := by decide +kernel
theorem dX12_gain_176 : decode cX12_gain 176 = .ok (.getfield 107, 3) := by decide +kernel
theorem dX12_gain_179 : decode cX12_gain 179 = .ok (.iload 5, 2) := by decide +kernel
theorem dX12_gain_181 : decode cX12_gain 181 = .ok (.iaload, 1) := by decide +kernel
theorem dX12_gain_182 : decode cX12_gain 182 = .ok (.if_icmp .ge 16, 3) := by decide +kernel
theorem dX12_gain_185 : decode cX12_gain 185 = .ok (.aload_n 0, 1) := by decide +kernel
theorem dX12_gain_186 : decode cX12_gain 186 = .ok (.iload 5, 2) := by decide +kernel
theorem dX12_gain_188 : decode cX12_gain 188 = .ok (.iload 4, 2) := by decide +kernel
theorem dX12_gain_190 : decode cX12_gain 190 = .ok (.iconst 2, 1) := by decide +kernel
theorem dX12_gain_191 : decode cX12_gain 191 = .ok (.isub, 1) := by decide +kernel
theorem dX12_gain_192 : decode cX12_gain 192 = .ok (.invokevirtual 439, 3) := by decide +kernel
theorem dX12_gain_195 : decode cX12_gain 195 = .ok (.goto 5, 3) := by decide +kernel
theorem dX12_gain_198 : decode cX12_gain 198 = .ok (.bipush (-100), 2) := by decide +kernel
theorem dX12_gain_200 : decode cX12_gain 200 = .ok (.ireturn, 1) := by decide +kernel
theorem dX12_goes_0 : decode cX12_goes 0 = .ok (.aload_n 0, 1) := by decide +kernel
theorem dX12_goes_1 : decode cX12_goes 1 = .ok (.aload_n 0, 1) := by decide +kernel
theorem dX12_goes_2 : decode cX12_goes 2 = .ok (.getfield 153, 3) := by decide +kernel
theorem dX12_goes_5 : decode cX12_goes 5 = .ok (.putfield 458, 3) := by decide +kernel
theorem dX12_goes_8 : decode cX12_goes 8 = .ok (.aload_n 0, 1) := by decide +kernel
theorem dX12_goes_9 : decode cX12_goes 9 = .ok (.iconst (-1), 1) := by decide +kernel
theorem dX12_goes_10 : decode cX12_goes 10 = .ok (.putfield 461, 3) := by decide +kernel
theorem dX12_goes_13 : decode cX12_goes 13 = .ok (.iconst 0, 1) := by decide +kernel
theorem dX12_goes_14 : decode cX12_goes 14 = .ok (.istore 4, 2) := by decide +kernel
theorem dX12_goes_16 : decode cX12_goes 16 = .ok (.iload 4, 2) := by decide +kernel
theorem dX12_goes_18 : decode cX12_goes 18 = .ok (.aload_n 0, 1) := by decide +kernel
theorem dX12_goes_19 : decode cX12_goes 19 = .ok (.getfield 140, 3) := by decide +kernel
theorem dX12_goes_22 : decode cX12_goes 22 = .ok (.iload_n 1, 1) := by decide +kernel
theorem dX12_goes_23 : decode cX12_goes 23 = .ok (.iaload, 1) := by decide +kernel
theorem dX12_goes_24 : decode cX12_goes 24 = .ok (.if_icmp .ge 54, 3) := by decide +kernel
theorem dX12_goes_27 : decode cX12_goes 27 = .ok (.aload_n 0, 1) := by decide +kernel
theorem dX12_goes_28 : decode cX12_goes 28 = .ok (.aload_n 0, 1) := by decide +kernel
theorem dX12_goes_29 : decode cX12_goes 29 = .ok (.aload_n 0, 1) := by decide +kernel
theorem dX12_goes_30 : decode cX12_goes 30 = .ok (.getfield 458, 3) := by decide +kernel
theorem dX12_goes_33 : decode cX12_goes 33 = .ok (.aload_n 0, 1) := by decide +kernel
theorem dX12_goes_34 : decode cX12_goes 34 = .ok (.getfield 137, 3) := by decide +kernel
theorem dX12_goes_37 : decode cX12_goes 37 = .ok (.bipush 12, 2) := by decide +kernel
theorem dX12_goes_39 : decode cX12_goes 39 = .ok (.iload_n 1, 1) := by decide +kernel
theorem dX12_goes_40 : decode cX12_goes 40 = .ok (.imul, 1) := by decide +kernel
theorem dX12_goes_41 : decode cX12_goes 41 = .ok (.iload 4, 2) := by decide +kernel
theorem dX12_goes_43 : decode cX12_goes 43 = .ok (.iadd, 1) := by decide +kernel
theorem dX12_goes_44 : decode cX12_goes 44 = .ok (.iaload, 1) := by decide +kernel
theorem dX12_goes_45 : decode cX12_goes 45 = .ok (.iload_n 2, 1) := by decide +kernel
theorem dX12_goes_46 : decode cX12_goes 46 = .ok (.iload_n 3, 1) := by decide +kernel
theorem dX12_goes_47 : decode cX12_goes 47 = .ok (.invokevirtual 426, 3) := by decide +kernel
theorem dX12_goes_50 : decode cX12_goes 50 = .ok (.putfield 461, 3) := by decide +kernel
theorem dX12_goes_53 : decode cX12_goes 53 = .ok (.aload_n 0, 1) := by decide +kernel
theorem dX12_goes_54 : decode cX12_goes 54 = .ok (.getfield 461, 3) := by decide +kernel
theorem dX12_goes_57 : decode cX12_goes 57 = .ok (.iconst (-1), 1) := by decide +kernel
theorem dX12_goes_58 : decode cX12_goes 58 = .ok (.if_icmp .eq 6, 3) := by decide +kernel
theorem dX12_goes_61 : decode cX12_goes 61 = .ok (.iload 4, 2) := by decide +kernel
theorem dX12_goes_63 : decode cX12_goes 63 = .ok (.ireturn, 1) := by decide +kernel
theorem dX12_goes_64 : decode cX12_goes 64 = .ok (.aload_n 0, 1) := by decide +kernel
theorem dX12_goes_65 : decode cX12_goes 65 = .ok (.aload_n 0, 1) := by decide +kernel
theorem dX12_goes_66 : decode cX12_goes 66 = .ok (.getfield 396, 3) := by decide +kernel
theorem dX12_goes_69 : decode cX12_goes 69 = .ok (.putfield 458, 3) := by decide +kernel
theorem dX12_goes_72 : decode cX12_goes 72 = .ok (.iinc 4 1, 3) := by decide +kernel
theorem dX12_goes_75 : decode cX12_goes 75 = .ok (.goto (-59), 3) := by decide +kernel
theorem dX12_goes_78 : decode cX12_goes 78 = .ok (.aload_n 0, 1) := by decide +kernel
theorem dX12_goes_79 : decode cX12_goes 79 = .ok (.getfield 140, 3) := by decide +kernel
theorem dX12_goes_82 : decode cX12_goes 82 = .ok (.iload_n 1, 1) := by decide +kernel
theorem dX12_goes_83 : decode cX12_goes 83 = .ok (.iaload, 1) := by decide +kernel
theorem dX12_goes_84 : decode cX12_goes 84 = .ok (.ireturn, 1) := by decide +kernel
theorem dX12_goesOn_0 : decode cX12_goesOn 0 = .ok (.iconst 0, 1) := by decide +kernel
theorem dX12_goesOn_1 : decode cX12_goesOn 1 = .ok (.istore 6, 2) := by decide +kernel
theorem dX12_goesOn_3 : decode cX12_goesOn 3 = .ok (.iload 6, 2) := by decide +kernel
theorem dX12_goesOn_5 : decode cX12_goesOn 5 = .ok (.sipush 768, 3) := by decide +kernel
theorem dX12_goesOn_8 : decode cX12_goesOn 8 = .ok (.if_icmp .ge 191, 3) := by decide +kernel
theorem dX12_goesOn_11 : decode cX12_goesOn 11 = .ok (.aload_n 0, 1) := by decide +kernel
theorem dX12_goesOn_12 : decode cX12_goesOn 12 = .ok (.getfield 411, 3) := by decide +kernel
theorem dX12_goesOn_15 : decode cX12_goesOn 15 = .ok (.iconst (-1), 1) := by decide +kernel
theorem dX12_goesOn_16 : decode cX12_goesOn 16 = .ok (.if_icmp .ne 183, 3) := by decide +kernel
theorem dX12_goesOn_19 : decode cX12_goesOn 19 = .ok (.aload_n 0, 1) := by decide +kernel
theorem dX12_goesOn_20 : decode cX12_goesOn 20 = .ok (.getfield 408, 3) := by decide +kernel
theorem dX12_goesOn_23 : decode cX12_goesOn 23 = .ok (.ifCond .ne 176, 3) := by decide +kernel
theorem dX12_goesOn_26 : decode cX12_goesOn 26 = .ok (.iload 6, 2) := by decide +kernel
theorem dX12_goesOn_28 : decode cX12_goesOn 28 = .ok (.bipush 64, 2) := by decide +kernel
theorem dX12_goesOn_30 : decode cX12_goesOn 30 = .ok (.irem, 1) := by decide +kernel
theorem dX12_goesOn_31 : decode cX12_goesOn 31 = .ok (.ifCond .ne 21, 3) := by decide +kernel
theorem dX12_goesOn_34 : decode cX12_goesOn 34 = .ok (.aload_n 0, 1) := by decide +kernel
theorem dX12_goesOn_35 : decode cX12_goesOn 35 = .ok (.iload 6, 2) := by decide +kernel
theorem dX12_goesOn_37 : decode cX12_goesOn 37 = .ok (.bipush 64, 2) := by decide +kernel
theorem dX12_goesOn_39 : decode cX12_goesOn 39 = .ok (.idiv, 1) := by decide +kernel
theorem dX12_goesOn_40 : decode cX12_goesOn 40 = .ok (.invokevirtual 361, 3) := by decide +kernel
theorem dX12_goesOn_43 : decode cX12_goesOn 43 = .ok (.ifCond .ne 9, 3) := by decide +kernel
theorem dX12_goesOn_46 : decode cX12_goesOn 46 = .ok (.iinc 6 63, 3) := by decide +kernel
theorem dX12_goesOn_49 : decode cX12_goesOn 49 = .ok (.goto 144, 3) := by decide +kernel
theorem dX12_goesOn_52 : decode cX12_goesOn 52 = .ok (.iload 6, 2) := by decide +kernel
theorem dX12_goesOn_54 : decode cX12_goesOn 54 = .ok (.bipush 16, 2) := by decide +kernel
theorem dX12_goesOn_56 : decode cX12_goesOn 56 = .ok (.idiv, 1) := by decide +kernel
theorem dX12_goesOn_57 : decode cX12_goesOn 57 = .ok (.iconst 4, 1) := by decide +kernel
theorem dX12_goesOn_58 : decode cX12_goesOn 58 = .ok (.irem, 1) := by decide +kernel
theorem dX12_goesOn_59 : decode cX12_goesOn 59 = .ok (.istore 7, 2) := by decide +kernel
theorem dX12_goesOn_61 : decode cX12_goesOn 61 = .ok (.iload 6, 2) := by decide +kernel
theorem dX12_goesOn_63 : decode cX12_goesOn 63 = .ok (.iconst 4, 1) := by decide +kernel
theorem dX12_goesOn_64 : decode cX12_goesOn 64 = .ok (.idiv, 1) := by decide +kernel
theorem dX12_goesOn_65 : decode cX12_goesOn 65 = .ok (.iconst 4, 1) := by decide +kernel
theorem dX12_goesOn_66 : decode cX12_goesOn 66 = .ok (.irem, 1) := by decide +kernel
theorem dX12_goesOn_67 : decode cX12_goesOn 67 = .ok (.istore 8, 2) := by decide +kernel
theorem dX12_goesOn_69 : decode cX12_goesOn 69 = .ok (.iload 4, 2) := by decide +kernel
theorem dX12_goesOn_71 : decode cX12_goesOn 71 = .ok (.iload 7, 2) := by decide +kernel
theorem dX12_goesOn_73 : decode cX12_goesOn 73 = .ok (.ishr, 1) := by decide +kernel
theorem dX12_goesOn_74 : decode cX12_goesOn 74 = .ok (.iconst 1, 1) := by decide +kernel
theorem dX12_goesOn_75 : decode cX12_goesOn 75 = .ok (.iand, 1) := by decide +kernel
theorem dX12_goesOn_76 : decode cX12_goesOn 76 = .ok (.ifCond .eq 117, 3) := by decide +kernel
theorem dX12_goesOn_79 : decode cX12_goesOn 79 = .ok (.iload 8, 2) := by decide +kernel
theorem dX12_goesOn_81 : decode cX12_goesOn 81 = .ok (.iconst 3, 1) := by decide +kernel
theorem dX12_goesOn_82 : decode cX12_goesOn 82 = .ok (.if_icmp .eq 16, 3) := by decide +kernel
theorem dX12_goesOn_85 : decode cX12_goesOn 85 = .ok (.iload 4, 2) := by decide +kernel
theorem dX12_goesOn_87 : decode cX12_goesOn 87 = .ok (.iload 8, 2) := by decide +kernel
theorem dX12_goesOn_89 : decode cX12_goesOn 89 = .ok (.ishr, 1) := by decide +kernel
theorem dX12_goesOn_90 : decode cX12_goesOn 90 = .ok (.iconst 1, 1) := by decide +kernel
theorem dX12_goesOn_91 : decode cX12_goesOn 91 = .ok (.iand, 1) := by decide +kernel
theorem dX12_goesOn_92 : decode cX12_goesOn 92 = .ok (.ifCond .ne 6, 3) := by decide +kernel
theorem dX12_goesOn_95 : decode cX12_goesOn 95 = .ok (.goto 98, 3) := by decide +kernel
theorem dX12_goesOn_98 : decode cX12_goesOn 98 = .ok (.aload_n 0, 1) := by decide +kernel
theorem dX12_goesOn_99 : decode cX12_goesOn 99 = .ok (.aload_n 0, 1) := by decide +kernel
theorem dX12_goesOn_100 : decode cX12_goesOn 100 = .ok (.getfield 97, 3) := by decide +kernel
theorem dX12_goesOn_103 : decode cX12_goesOn 103 = .ok (.iload_n 1, 1) := by decide +kernel
theorem dX12_goesOn_104 : decode cX12_goesOn 104 = .ok (.laload, 1) := by decide +kernel
theorem dX12_goesOn_105 : decode cX12_goesOn 105 = .ok (.iload 6, 2) := by decide +kernel
theorem dX12_goesOn_107 : decode cX12_goesOn 107 = .ok (.iload_n 3, 1) := by decide +kernel
theorem dX12_goesOn_108 : decode cX12_goesOn 108 = .ok (.iload 5, 2) := by decide +kernel
theorem dX12_goesOn_110 : decode cX12_goesOn 110 = .ok (.invokevirtual 426, 3) := by decide +kernel
theorem dX12_goesOn_113 : decode cX12_goesOn 113 = .ok (.iconst (-1), 1) := by decide +kernel
theorem dX12_goesOn_114 : decode cX12_goesOn 114 = .ok (.if_icmp .ne 79, 3) := by decide +kernel
theorem dX12_goesOn_117 : decode cX12_goesOn 117 = .ok (.aload_n 0, 1) := by decide +kernel
theorem dX12_goesOn_118 : decode cX12_goesOn 118 = .ok (.getfield 110, 3) := by decide +kernel
theorem dX12_goesOn_121 : decode cX12_goesOn 121 = .ok (.aload_n 0, 1) := by decide +kernel
theorem dX12_goesOn_122 : decode cX12_goesOn 122 = .ok (.aload_n 0, 1) := by decide +kernel
theorem dX12_goesOn_123 : decode cX12_goesOn 123 = .ok (.getfield 396, 3) := by decide +kernel
theorem dX12_goesOn_126 : decode cX12_goesOn 126 = .ok (.invokevirtual 401, 3) := by decide +kernel
theorem dX12_goesOn_129 : decode cX12_goesOn 129 = .ok (.iaload, 1) := by decide +kernel
theorem dX12_goesOn_130 : decode cX12_goesOn 130 = .ok (.iconst (-1), 1) := by decide +kernel
theorem dX12_goesOn_131 : decode cX12_goesOn 131 = .ok (.if_icmp .eq 6, 3) := by decide +kernel
theorem dX12_goesOn_134 : decode cX12_goesOn 134 = .ok (.goto 59, 3) := by decide +kernel
theorem dX12_goesOn_137 : decode cX12_goesOn 137 = .ok (.aload_n 0, 1) := by decide +kernel
theorem dX12_goesOn_138 : decode cX12_goesOn 138 = .ok (.getfield 405, 3) := by decide +kernel
theorem dX12_goesOn_141 : decode cX12_goesOn 141 = .ok (.sipush 400, 3) := by decide +kernel
theorem dX12_goesOn_144 : decode cX12_goesOn 144 = .ok (.if_icmp .ne 9, 3) := by decide +kernel
theorem dX12_goesOn_147 : decode cX12_goesOn 147 = .ok (.aload_n 0, 1) := by decide +kernel
theorem dX12_goesOn_148 : decode cX12_goesOn 148 = .ok (.iconst 1, 1) := by decide +kernel
theorem dX12_goesOn_149 : decode cX12_goesOn 149 = .ok (.putfield 408, 3) := by decide +kernel
theorem dX12_goesOn_152 : decode cX12_goesOn 152 = .ok (.return_, 1) := by decide +kernel
theorem dX12_goesOn_153 : decode cX12_goesOn 153 = .ok (.aload_n 0, 1) := by decide +kernel
theorem dX12_goesOn_154 : decode cX12_goesOn 154 = .ok (.getfield 396, 3) := by decide +kernel
theorem dX12_goesOn_157 : decode cX12_goesOn 157 = .ok (.lstore 9, 2) := by decide +kernel
theorem dX12_goesOn_159 : decode cX12_goesOn 159 = .ok (.aload_n 0, 1) := by decide +kernel
theorem dX12_goesOn_160 : decode cX12_goesOn 160 = .ok (.lload 9, 2) := by decide +kernel
theorem dX12_goesOn_162 : decode cX12_goesOn 162 = .ok (.iload_n 1, 1) := by decide +kernel
theorem dX12_goesOn_163 : decode cX12_goesOn 163 = .ok (.iload 6, 2) := by decide +kernel
theorem dX12_goesOn_165 : decode cX12_goesOn 165 = .ok (.invokevirtual 414, 3) := by decide +kernel
theorem dX12_goesOn_168 : decode cX12_goesOn 168 = .ok (.iload_n 2, 1) := by decide +kernel
theorem dX12_goesOn_169 : decode cX12_goesOn 169 = .ok (.iconst (-1), 1) := by decide +kernel
theorem dX12_goesOn_170 : decode cX12_goesOn 170 = .ok (.if_icmp .eq 23, 3) := by decide +kernel
theorem dX12_goesOn_173 : decode cX12_goesOn 173 = .ok (.aload_n 0, 1) := by decide +kernel
theorem dX12_goesOn_174 : decode cX12_goesOn 174 = .ok (.lload 9, 2) := by decide +kernel
theorem dX12_goesOn_176 : decode cX12_goesOn 176 = .ok (.iload_n 2, 1) := by decide +kernel
theorem dX12_goesOn_177 : decode cX12_goesOn 177 = .ok (.invokevirtual 418, 3) := by decide +kernel
theorem dX12_goesOn_180 : decode cX12_goesOn 180 = .ok (.ifCond .eq 13, 3) := by decide +kernel
theorem dX12_goesOn_183 : decode cX12_goesOn 183 = .ok (.aload_n 0, 1) := by decide +kernel
theorem dX12_goesOn_184 : decode cX12_goesOn 184 = .ok (.aload_n 0, 1) := by decide +kernel
theorem dX12_goesOn_185 : decode cX12_goesOn 185 = .ok (.getfield 405, 3) := by decide +kernel
theorem dX12_goesOn_188 : decode cX12_goesOn 188 = .ok (.iconst 1, 1) := by decide +kernel
theorem dX12_goesOn_189 : decode cX12_goesOn 189 = .ok (.isub, 1) := by decide +kernel
theorem dX12_goesOn_190 : decode cX12_goesOn 190 = .ok (.putfield 411, 3) := by decide +kernel
theorem dX12_goesOn_193 : decode cX12_goesOn 193 = .ok (.iinc 6 1, 3) := by decide +kernel
theorem dX12_goesOn_196 : decode cX12_goesOn 196 = .ok (.goto (-193), 3) := by decide +kernel
theorem dX12_goesOn_199 : decode cX12_goesOn 199 = .ok (.return_, 1) := by decide +kernel
theorem dX12_hole_0 : decode cX12_hole 0 = .ok (.aload_n 0, 1) := by decide +kernel
theorem dX12_hole_1 : decode cX12_hole 1 = .ok (.iload_n 1, 1) := by decide +kernel
theorem dX12_hole_2 : decode cX12_hole 2 = .ok (.invokevirtual 430, 3) := by decide +kernel
theorem dX12_hole_5 : decode cX12_hole 5 = .ok (.ifCond .eq 41, 3) := by decide +kernel
theorem dX12_hole_8 : decode cX12_hole 8 = .ok (.aload_n 0, 1) := by decide +kernel
theorem dX12_hole_9 : decode cX12_hole 9 = .ok (.iload_n 2, 1) := by decide +kernel
theorem dX12_hole_10 : decode cX12_hole 10 = .ok (.iload_n 3, 1) := by decide +kernel
theorem dX12_hole_11 : decode cX12_hole 11 = .ok (.invokevirtual 433, 3) := by decide +kernel
theorem dX12_hole_14 : decode cX12_hole 14 = .ok (.ifCond .eq 32, 3) := by decide +kernel
theorem dX12_hole_17 : decode cX12_hole 17 = .ok (.iload 4, 2) := by decide +kernel
theorem dX12_hole_19 : decode cX12_hole 19 = .ok (.iconst 1, 1) := by decide +kernel
theorem dX12_hole_20 : decode cX12_hole 20 = .ok (.bipush 7, 2) := by decide +kernel
theorem dX12_hole_22 : decode cX12_hole 22 = .ok (.invokestatic 1, 3) := by decide +kernel
theorem dX12_hole_25 : decode cX12_hole 25 = .ok (.ifCond .eq 21, 3) := by decide +kernel
theorem dX12_hole_28 : decode cX12_hole 28 = .ok (.iload 5, 2) := by decide +kernel
theorem dX12_hole_30 : decode cX12_hole 30 = .ok (.bipush 20, 2) := by decide +kernel
theorem dX12_hole_32 : decode cX12_hole 32 = .ok (.if_icmp .eq 16, 3) := by decide +kernel
theorem dX12_hole_35 : decode cX12_hole 35 = .ok (.iload 5, 2) := by decide +kernel
theorem dX12_hole_37 : decode cX12_hole 37 = .ok (.iconst 0, 1) := by decide +kernel
theorem dX12_hole_38 : decode cX12_hole 38 = .ok (.bipush 6, 2) := by decide +kernel
theorem dX12_hole_40 : decode cX12_hole 40 = .ok (.invokestatic 1, 3) := by decide +kernel
theorem dX12_hole_43 : decode cX12_hole 43 = .ok (.ifCond .ne 5, 3) := by decide +kernel
theorem dX12_hole_46 : decode cX12_hole 46 = .ok (.iconst (-1), 1) := by decide +kernel
theorem dX12_hole_47 : decode cX12_hole 47 = .ok (.ireturn, 1) := by decide +kernel
theorem dX12_hole_48 : decode cX12_hole 48 = .ok (.aload_n 0, 1) := by decide +kernel
theorem dX12_hole_49 : decode cX12_hole 49 = .ok (.iload_n 1, 1) := by decide +kernel
theorem dX12_hole_50 : decode cX12_hole 50 = .ok (.iload_n 2, 1) := by decide +kernel
theorem dX12_hole_51 : decode cX12_hole 51 = .ok (.iload_n 3, 1) := by decide +kernel
theorem dX12_hole_52 : decode cX12_hole 52 = .ok (.iload 4, 2) := by decide +kernel
theorem dX12_hole_54 : decode cX12_hole 54 = .ok (.iconst 0, 1) := by decide +kernel
theorem dX12_hole_55 : decode cX12_hole 55 = .ok (.invokevirtual 436, 3) := by decide +kernel
theorem dX12_hole_58 : decode cX12_hole 58 = .ok (.aload_n 0, 1) := by decide +kernel
theorem dX12_hole_59 : decode cX12_hole 59 = .ok (.getfield 411, 3) := by decide +kernel
theorem dX12_hole_62 : decode cX12_hole 62 = .ok (.iconst (-1), 1) := by decide +kernel
theorem dX12_hole_63 : decode cX12_hole 63 = .ok (.if_icmp .ne 31, 3) := by decide +kernel
theorem dX12_hole_66 : decode cX12_hole 66 = .ok (.iload 5, 2) := by decide +kernel
theorem dX12_hole_68 : decode cX12_hole 68 = .ok (.bipush 20, 2) := by decide +kernel
theorem dX12_hole_70 : decode cX12_hole 70 = .ok (.if_icmp .ne 10, 3) := by decide +kernel
theorem dX12_hole_73 : decode cX12_hole 73 = .ok (.aload_n 0, 1) := by decide +kernel
theorem dX12_hole_74 : decode cX12_hole 74 = .ok (.getfield 405, 3) := by decide +kernel
theorem dX12_hole_77 : decode cX12_hole 77 = .ok (.goto 16, 3) := by decide +kernel
theorem dX12_hole_80 : decode cX12_hole 80 = .ok (.aload_n 0, 1) := by decide +kernel
theorem dX12_hole_81 : decode cX12_hole 81 = .ok (.getfield 408, 3) := by decide +kernel
theorem dX12_hole_84 : decode cX12_hole 84 = .ok (.ifCond .eq 8, 3) := by decide +kernel
theorem dX12_hole_87 : decode cX12_hole 87 = .ok (.bipush (-2), 2) := by decide +kernel
theorem dX12_hole_89 : decode cX12_hole 89 = .ok (.goto 4, 3) := by decide +kernel
theorem dX12_hole_92 : decode cX12_hole 92 = .ok (.iconst (-1), 1) := by decide +kernel
theorem dX12_hole_93 : decode cX12_hole 93 = .ok (.ireturn, 1) := by decide +kernel
theorem dX12_hole_94 : decode cX12_hole 94 = .ok (.iload 5, 2) := by decide +kernel
theorem dX12_hole_96 : decode cX12_hole 96 = .ok (.bipush 20, 2) := by decide +kernel
theorem dX12_hole_98 : decode cX12_hole 98 = .ok (.if_icmp .ne 8, 3) := by decide +kernel
theorem dX12_hole_101 : decode cX12_hole 101 = .ok (.aload_n 0, 1) := by decide +kernel
theorem dX12_hole_102 : decode cX12_hole 102 = .ok (.getfield 405, 3) := by decide +kernel
theorem dX12_hole_105 : decode cX12_hole 105 = .ok (.ireturn, 1) := by decide +kernel
theorem dX12_hole_106 : decode cX12_hole 106 = .ok (.iload 5, 2) := by decide +kernel
theorem dX12_hole_108 : decode cX12_hole 108 = .ok (.ifCond .ne 13, 3) := by decide +kernel
theorem dX12_hole_111 : decode cX12_hole 111 = .ok (.aload_n 0, 1) := by decide +kernel
theorem dX12_hole_112 : decode cX12_hole 112 = .ok (.getfield 107, 3) := by decide +kernel
theorem dX12_hole_115 : decode cX12_hole 115 = .ok (.aload_n 0, 1) := by decide +kernel
theorem dX12_hole_116 : decode cX12_hole 116 = .ok (.getfield 411, 3) := by decide +kernel
theorem dX12_hole_119 : decode cX12_hole 119 = .ok (.iaload, 1) := by decide +kernel
theorem dX12_hole_120 : decode cX12_hole 120 = .ok (.ireturn, 1) := by decide +kernel
theorem dX12_hole_121 : decode cX12_hole 121 = .ok (.iload 5, 2) := by decide +kernel
theorem dX12_hole_123 : decode cX12_hole 123 = .ok (.aload_n 0, 1) := by decide +kernel
theorem dX12_hole_124 : decode cX12_hole 124 = .ok (.getfield 107, 3) := by decide +kernel
theorem dX12_hole_127 : decode cX12_hole 127 = .ok (.aload_n 0, 1) := by decide +kernel
theorem dX12_hole_128 : decode cX12_hole 128 = .ok (.getfield 411, 3) := by decide +kernel
theorem dX12_hole_131 : decode cX12_hole 131 = .ok (.iaload, 1) := by decide +kernel
theorem dX12_hole_132 : decode cX12_hole 132 = .ok (.if_icmp .gt 18, 3) := by decide +kernel
theorem dX12_hole_135 : decode cX12_hole 135 = .ok (.aload_n 0, 1) := by decide +kernel
theorem dX12_hole_136 : decode cX12_hole 136 = .ok (.aload_n 0, 1) := by decide +kernel
theorem dX12_hole_137 : decode cX12_hole 137 = .ok (.getfield 411, 3) := by decide +kernel
theorem dX12_hole_140 : decode cX12_hole 140 = .ok (.iload 5, 2) := by decide +kernel
theorem dX12_hole_142 : decode cX12_hole 142 = .ok (.iconst 1, 1) := by decide +kernel
theorem dX12_hole_143 : decode cX12_hole 143 = .ok (.isub, 1) := by decide +kernel
theorem dX12_hole_144 : decode cX12_hole 144 = .ok (.invokevirtual 439, 3) := by decide +kernel
theorem dX12_hole_147 : decode cX12_hole 147 = .ok (.goto 4, 3) := by decide +kernel
theorem dX12_hole_150 : decode cX12_hole 150 = .ok (.iconst (-1), 1) := by decide +kernel
theorem dX12_hole_151 : decode cX12_hole 151 = .ok (.ireturn, 1) := by decide +kernel
theorem dX12_honest_0 : decode cX12_honest 0 = .ok (.iload_n 1, 1) := by decide +kernel
theorem dX12_honest_1 : decode cX12_honest 1 = .ok (.invokestatic 452, 3) := by decide +kernel
theorem dX12_honest_4 : decode cX12_honest 4 = .ok (.ifCond .eq 13, 3) := by decide +kernel
theorem dX12_honest_7 : decode cX12_honest 7 = .ok (.aload_n 0, 1) := by decide +kernel
theorem dX12_honest_8 : decode cX12_honest 8 = .ok (.getfield 143, 3) := by decide +kernel
theorem dX12_honest_11 : decode cX12_honest 11 = .ok (.iload_n 1, 1) := by decide +kernel
theorem dX12_honest_12 : decode cX12_honest 12 = .ok (.baload, 1) := by decide +kernel
theorem dX12_honest_13 : decode cX12_honest 13 = .ok (.iload_n 2, 1) := by decide +kernel
theorem dX12_honest_14 : decode cX12_honest 14 = .ok (.if_icmp .ne 5, 3) := by decide +kernel
theorem dX12_honest_17 : decode cX12_honest 17 = .ok (.iconst 0, 1) := by decide +kernel
theorem dX12_honest_18 : decode cX12_honest 18 = .ok (.ireturn, 1) := by decide +kernel
theorem dX12_honest_19 : decode cX12_honest 19 = .ok (.aload_n 0, 1) := by decide +kernel
theorem dX12_honest_20 : decode cX12_honest 20 = .ok (.getfield 143, 3) := by decide +kernel
theorem dX12_honest_23 : decode cX12_honest 23 = .ok (.iload_n 1, 1) := by decide +kernel
theorem dX12_honest_24 : decode cX12_honest 24 = .ok (.iload_n 2, 1) := by decide +kernel
theorem dX12_honest_25 : decode cX12_honest 25 = .ok (.bastore, 1) := by decide +kernel
theorem dX12_honest_26 : decode cX12_honest 26 = .ok (.iconst 1, 1) := by decide +kernel
theorem dX12_honest_27 : decode cX12_honest 27 = .ok (.ireturn, 1) := by decide +kernel
theorem dX12_is_0 : decode cX12_is 0 = .ok (.aload_n 0, 1) := by decide +kernel
theorem dX12_is_1 : decode cX12_is 1 = .ok (.getfield 185, 3) := by decide +kernel
theorem dX12_is_4 : decode cX12_is 4 = .ok (.aload_n 0, 1) := by decide +kernel
theorem dX12_is_5 : decode cX12_is 5 = .ok (.getfield 188, 3) := by decide +kernel
theorem dX12_is_8 : decode cX12_is 8 = .ok (.isub, 1) := by decide +kernel
theorem dX12_is_9 : decode cX12_is 9 = .ok (.aload_n 1, 1) := by decide +kernel
theorem dX12_is_10 : decode cX12_is 10 = .ok (.invokevirtual 191, 3) := by decide +kernel
theorem dX12_is_13 : decode cX12_is 13 = .ok (.if_icmp .ne 7, 3) := by decide +kernel
theorem dX12_is_16 : decode cX12_is 16 = .ok (.iconst 1, 1) := by decide +kernel
theorem dX12_is_17 : decode cX12_is 17 = .ok (.goto 4, 3) := by decide +kernel
theorem dX12_is_20 : decode cX12_is 20 = .ok (.iconst 0, 1) := by decide +kernel
theorem dX12_is_21 : decode cX12_is 21 = .ok (.istore_n 2, 1) := by decide +kernel
theorem dX12_is_22 : decode cX12_is 22 = .ok (.iconst 0, 1) := by decide +kernel
theorem dX12_is_23 : decode cX12_is 23 = .ok (.istore_n 3, 1) := by decide +kernel
theorem dX12_is_24 : decode cX12_is 24 = .ok (.iload_n 3, 1) := by decide +kernel
theorem dX12_is_25 : decode cX12_is 25 = .ok (.aload_n 1, 1) := by decide +kernel
theorem dX12_is_26 : decode cX12_is 26 = .ok (.invokevirtual 191, 3) := by decide +kernel
theorem dX12_is_29 : decode cX12_is 29 = .ok (.if_icmp .ge 38, 3) := by decide +kernel
theorem dX12_is_32 : decode cX12_is 32 = .ok (.iload_n 2, 1) := by decide +kernel
theorem dX12_is_33 : decode cX12_is 33 = .ok (.ifCond .eq 34, 3) := by decide +kernel
theorem dX12_is_36 : decode cX12_is 36 = .ok (.aload_n 0, 1) := by decide +kernel
theorem dX12_is_37 : decode cX12_is 37 = .ok (.getfield 78, 3) := by decide +kernel
theorem dX12_is_40 : decode cX12_is 40 = .ok (.aload_n 0, 1) := by decide +kernel
theorem dX12_is_41 : decode cX12_is 41 = .ok (.getfield 188, 3) := by decide +kernel
theorem dX12_is_44 : decode cX12_is 44 = .ok (.iload_n 3, 1) := by decide +kernel
theorem dX12_is_45 : decode cX12_is 45 = .ok (.iadd, 1) := by decide +kernel
theorem dX12_is_46 : decode cX12_is 46 = .ok (.iaload, 1) := by decide +kernel
theorem dX12_is_47 : decode cX12_is 47 = .ok (.aload_n 1, 1) := by decide +kernel
theorem dX12_is_48 : decode cX12_is 48 = .ok (.iload_n 3, 1) := by decide +kernel
theorem dX12_is_49 : decode cX12_is 49 = .ok (.invokevirtual 197, 3) := by decide +kernel
theorem dX12_is_52 : decode cX12_is 52 = .ok (.if_icmp .ne 7, 3) := by decide +kernel
theorem dX12_is_55 : decode cX12_is 55 = .ok (.iconst 1, 1) := by decide +kernel
theorem dX12_is_56 : decode cX12_is 56 = .ok (.goto 4, 3) := by decide +kernel
theorem dX12_is_59 : decode cX12_is 59 = .ok (.iconst 0, 1) := by decide +kernel
theorem dX12_is_60 : decode cX12_is 60 = .ok (.istore_n 2, 1) := by decide +kernel
theorem dX12_is_61 : decode cX12_is 61 = .ok (.iinc 3 1, 3) := by decide +kernel
theorem dX12_is_64 : decode cX12_is 64 = .ok (.goto (-40), 3) := by decide +kernel
theorem dX12_is_67 : decode cX12_is 67 = .ok (.iload_n 2, 1) := by decide +kernel
theorem dX12_is_68 : decode cX12_is 68 = .ok (.ireturn, 1) := by decide +kernel
theorem dX12_isAct_0 : decode cX12_isAct 0 = .ok (.iload_n 1, 1) := by decide +kernel
theorem dX12_isAct_1 : decode cX12_isAct 1 = .ok (.iconst 0, 1) := by decide +kernel
theorem dX12_isAct_2 : decode cX12_isAct 2 = .ok (.bipush 11, 2) := by decide +kernel
theorem dX12_isAct_4 : decode cX12_isAct 4 = .ok (.invokestatic 1, 3) := by decide +kernel
theorem dX12_isAct_7 : decode cX12_isAct 7 = .ok (.ifCond .eq 23, 3) := by decide +kernel
theorem dX12_isAct_10 : decode cX12_isAct 10 = .ok (.iload_n 1, 1) := by decide +kernel
theorem dX12_isAct_11 : decode cX12_isAct 11 = .ok (.bipush 6, 2) := by decide +kernel
theorem dX12_isAct_13 : decode cX12_isAct 13 = .ok (.irem, 1) := by decide +kernel
theorem dX12_isAct_14 : decode cX12_isAct 14 = .ok (.aload_n 0, 1) := by decide +kernel
theorem dX12_isAct_15 : decode cX12_isAct 15 = .ok (.getfield 36, 3) := by decide +kernel
theorem dX12_isAct_18 : decode cX12_isAct 18 = .ok (.iload_n 1, 1) := by decide +kernel
theorem dX12_isAct_19 : decode cX12_isAct 19 = .ok (.bipush 6, 2) := by decide +kernel
theorem dX12_isAct_21 : decode cX12_isAct 21 = .ok (.idiv, 1) := by decide +kernel
theorem dX12_isAct_22 : decode cX12_isAct 22 = .ok (.iaload, 1) := by decide +kernel
theorem dX12_isAct_23 : decode cX12_isAct 23 = .ok (.if_icmp .ge 7, 3) := by decide +kernel
theorem dX12_isAct_26 : decode cX12_isAct 26 = .ok (.iconst 1, 1) := by decide +kernel
theorem dX12_isAct_27 : decode cX12_isAct 27 = .ok (.goto 4, 3) := by decide +kernel
theorem dX12_isAct_30 : decode cX12_isAct 30 = .ok (.iconst 0, 1) := by decide +kernel
theorem dX12_isAct_31 : decode cX12_isAct 31 = .ok (.ireturn, 1) := by decide +kernel
theorem dX12_isCode_0 : decode cX12_isCode 0 = .ok (.iload_n 1, 1) := by decide +kernel
theorem dX12_isCode_1 : decode cX12_isCode 1 = .ok (.bipush 64, 2) := by decide +kernel
theorem dX12_isCode_3 : decode cX12_isCode 3 = .ok (.idiv, 1) := by decide +kernel
theorem dX12_isCode_4 : decode cX12_isCode 4 = .ok (.istore_n 3, 1) := by decide +kernel
theorem dX12_isCode_5 : decode cX12_isCode 5 = .ok (.aload_n 0, 1) := by decide +kernel
theorem dX12_isCode_6 : decode cX12_isCode 6 = .ok (.iload_n 1, 1) := by decide +kernel
theorem dX12_isCode_7 : decode cX12_isCode 7 = .ok (.bipush 16, 2) := by decide +kernel
theorem dX12_isCode_9 : decode cX12_isCode 9 = .ok (.idiv, 1) := by decide +kernel
theorem dX12_isCode_10 : decode cX12_isCode 10 = .ok (.iconst 4, 1) := by decide +kernel
theorem dX12_isCode_11 : decode cX12_isCode 11 = .ok (.irem, 1) := by decide +kernel
theorem dX12_isCode_12 : decode cX12_isCode 12 = .ok (.putfield 364, 3) := by decide +kernel
theorem dX12_isCode_15 : decode cX12_isCode 15 = .ok (.aload_n 0, 1) := by decide +kernel
theorem dX12_isCode_16 : decode cX12_isCode 16 = .ok (.iload_n 1, 1) := by decide +kernel
theorem dX12_isCode_17 : decode cX12_isCode 17 = .ok (.iconst 4, 1) := by decide +kernel
theorem dX12_isCode_18 : decode cX12_isCode 18 = .ok (.idiv, 1) := by decide +kernel
theorem dX12_isCode_19 : decode cX12_isCode 19 = .ok (.iconst 4, 1) := by decide +kernel
theorem dX12_isCode_20 : decode cX12_isCode 20 = .ok (.irem, 1) := by decide +kernel
theorem dX12_isCode_21 : decode cX12_isCode 21 = .ok (.putfield 367, 3) := by decide +kernel
theorem dX12_isCode_24 : decode cX12_isCode 24 = .ok (.aload_n 0, 1) := by decide +kernel
theorem dX12_isCode_25 : decode cX12_isCode 25 = .ok (.iload_n 1, 1) := by decide +kernel
theorem dX12_isCode_26 : decode cX12_isCode 26 = .ok (.iconst 4, 1) := by decide +kernel
theorem dX12_isCode_27 : decode cX12_isCode 27 = .ok (.irem, 1) := by decide +kernel
theorem dX12_isCode_28 : decode cX12_isCode 28 = .ok (.putfield 370, 3) := by decide +kernel
theorem dX12_isCode_31 : decode cX12_isCode 31 = .ok (.aload_n 0, 1) := by decide +kernel
theorem dX12_isCode_32 : decode cX12_isCode 32 = .ok (.iload_n 3, 1) := by decide +kernel
theorem dX12_isCode_33 : decode cX12_isCode 33 = .ok (.invokevirtual 361, 3) := by decide +kernel
theorem dX12_isCode_36 : decode cX12_isCode 36 = .ok (.ifCond .eq 82, 3) := by decide +kernel
theorem dX12_isCode_39 : decode cX12_isCode 39 = .ok (.iload_n 2, 1) := by decide +kernel
theorem dX12_isCode_40 : decode cX12_isCode 40 = .ok (.iload_n 3, 1) := by decide +kernel
theorem dX12_isCode_41 : decode cX12_isCode 41 = .ok (.bipush 6, 2) := by decide +kernel
theorem dX12_isCode_43 : decode cX12_isCode 43 = .ok (.idiv, 1) := by decide +kernel
theorem dX12_isCode_44 : decode cX12_isCode 44 = .ok (.ishr, 1) := by decide +kernel
theorem dX12_isCode_45 : decode cX12_isCode 45 = .ok (.iconst 1, 1) := by decide +kernel
theorem dX12_isCode_46 : decode cX12_isCode 46 = .ok (.iand, 1) := by decide +kernel
theorem dX12_isCode_47 : decode cX12_isCode 47 = .ok (.iconst 1, 1) := by decide +kernel
theorem dX12_isCode_48 : decode cX12_isCode 48 = .ok (.if_icmp .ne 70, 3) := by decide +kernel
theorem dX12_isCode_51 : decode cX12_isCode 51 = .ok (.aload_n 0, 1) := by decide +kernel
theorem dX12_isCode_52 : decode cX12_isCode 52 = .ok (.getfield 364, 3) := by decide +kernel
theorem dX12_isCode_55 : decode cX12_isCode 55 = .ok (.iconst 3, 1) := by decide +kernel
theorem dX12_isCode_56 : decode cX12_isCode 56 = .ok (.if_icmp .eq 62, 3) := by decide +kernel
theorem dX12_isCode_59 : decode cX12_isCode 59 = .ok (.aload_n 0, 1) := by decide +kernel
theorem dX12_isCode_60 : decode cX12_isCode 60 = .ok (.getfield 367, 3) := by decide +kernel
theorem dX12_isCode_63 : decode cX12_isCode 63 = .ok (.aload_n 0, 1) := by decide +kernel
theorem dX12_isCode_64 : decode cX12_isCode 64 = .ok (.getfield 364, 3) := by decide +kernel
theorem dX12_isCode_67 : decode cX12_isCode 67 = .ok (.if_icmp .eq 51, 3) := by decide +kernel
theorem dX12_isCode_70 : decode cX12_isCode 70 = .ok (.aload_n 0, 1) := by decide +kernel
theorem dX12_isCode_71 : decode cX12_isCode 71 = .ok (.getfield 367, 3) := by decide +kernel
theorem dX12_isCode_74 : decode cX12_isCode 74 = .ok (.iconst 3, 1) := by decide +kernel
theorem dX12_isCode_75 : decode cX12_isCode 75 = .ok (.if_icmp .ne 7, 3) := by decide +kernel
theorem dX12_isCode_78 : decode cX12_isCode 78 = .ok (.iconst 1, 1) := by decide +kernel
theorem dX12_isCode_79 : decode cX12_isCode 79 = .ok (.goto 4, 3) := by decide +kernel
theorem dX12_isCode_82 : decode cX12_isCode 82 = .ok (.iconst 0, 1) := by decide +kernel
theorem dX12_isCode_83 : decode cX12_isCode 83 = .ok (.aload_n 0, 1) := by decide +kernel
theorem dX12_isCode_84 : decode cX12_isCode 84 = .ok (.getfield 72, 3) := by decide +kernel
theorem dX12_isCode_87 : decode cX12_isCode 87 = .ok (.iload_n 3, 1) := by decide +kernel
theorem dX12_isCode_88 : decode cX12_isCode 88 = .ok (.baload, 1) := by decide +kernel
theorem dX12_isCode_89 : decode cX12_isCode 89 = .ok (.if_icmp .eq 29, 3) := by decide +kernel
theorem dX12_isCode_92 : decode cX12_isCode 92 = .ok (.aload_n 0, 1) := by decide +kernel
theorem dX12_isCode_93 : decode cX12_isCode 93 = .ok (.getfield 370, 3) := by decide +kernel
theorem dX12_isCode_96 : decode cX12_isCode 96 = .ok (.iconst 3, 1) := by decide +kernel
theorem dX12_isCode_97 : decode cX12_isCode 97 = .ok (.if_icmp .ne 7, 3) := by decide +kernel
theorem dX12_isCode_100 : decode cX12_isCode 100 = .ok (.iconst 1, 1) := by decide +kernel
theorem dX12_isCode_101 : decode cX12_isCode 101 = .ok (.goto 4, 3) := by decide +kernel
theorem dX12_isCode_104 : decode cX12_isCode 104 = .ok (.iconst 0, 1) := by decide +kernel
theorem dX12_isCode_105 : decode cX12_isCode 105 = .ok (.aload_n 0, 1) := by decide +kernel
theorem dX12_isCode_106 : decode cX12_isCode 106 = .ok (.getfield 75, 3) := by decide +kernel
theorem dX12_isCode_109 : decode cX12_isCode 109 = .ok (.iload_n 3, 1) := by decide +kernel
theorem dX12_isCode_110 : decode cX12_isCode 110 = .ok (.baload, 1) := by decide +kernel
theorem dX12_isCode_111 : decode cX12_isCode 111 = .ok (.if_icmp .eq 7, 3) := by decide +kernel
theorem dX12_isCode_114 : decode cX12_isCode 114 = .ok (.iconst 1, 1) := by decide +kernel
theorem dX12_isCode_115 : decode cX12_isCode 115 = .ok (.goto 4, 3) := by decide +kernel
theorem dX12_isCode_118 : decode cX12_isCode 118 = .ok (.iconst 0, 1) := by decide +kernel
theorem dX12_isCode_119 : decode cX12_isCode 119 = .ok (.ireturn, 1) := by decide +kernel
theorem dX12_isDigit_0 : decode cX12_isDigit 0 = .ok (.iload_n 0, 1) := by decide +kernel
theorem dX12_isDigit_1 : decode cX12_isDigit 1 = .ok (.bipush 48, 2) := by decide +kernel
theorem dX12_isDigit_3 : decode cX12_isDigit 3 = .ok (.bipush 57, 2) := by decide +kernel
theorem dX12_isDigit_5 : decode cX12_isDigit 5 = .ok (.invokestatic 1, 3) := by decide +kernel
theorem dX12_isDigit_8 : decode cX12_isDigit 8 = .ok (.ireturn, 1) := by decide +kernel
theorem dX12_isHonestAll_0 : decode cX12_isHonestAll 0 = .ok (.iconst 1, 1) := by decide +kernel
theorem dX12_isHonestAll_1 : decode cX12_isHonestAll 1 = .ok (.istore_n 2, 1) := by decide +kernel
theorem dX12_isHonestAll_2 : decode cX12_isHonestAll 2 = .ok (.iconst 0, 1) := by decide +kernel
theorem dX12_isHonestAll_3 : decode cX12_isHonestAll 3 = .ok (.istore_n 3, 1) := by decide +kernel
theorem dX12_isHonestAll_4 : decode cX12_isHonestAll 4 = .ok (.iload_n 3, 1) := by decide +kernel
theorem dX12_isHonestAll_5 : decode cX12_isHonestAll 5 = .ok (.bipush 6, 2) := by decide +kernel
theorem dX12_isHonestAll_7 : decode cX12_isHonestAll 7 = .ok (.if_icmp .ge 44, 3) := by decide +kernel
theorem dX12_isHonestAll_10 : decode cX12_isHonestAll 10 = .ok (.iload_n 2, 1) := by decide +kernel
theorem dX12_isHonestAll_11 : decode cX12_isHonestAll 11 = .ok (.ifCond .eq 32, 3) := by decide +kernel
theorem dX12_isHonestAll_14 : decode cX12_isHonestAll 14 = .ok (.aload_n 0, 1) := by decide +kernel
theorem dX12_isHonestAll_15 : decode cX12_isHonestAll 15 = .ok (.getfield 143, 3) := by decide +kernel
theorem dX12_isHonestAll_18 : decode cX12_isHonestAll 18 = .ok (.iload_n 3, 1) := by decide +kernel
theorem dX12_isHonestAll_19 : decode cX12_isHonestAll 19 = .ok (.baload, 1) := by decide +kernel
theorem dX12_isHonestAll_20 : decode cX12_isHonestAll 20 = .ok (.ifCond .eq 19, 3) := by decide +kernel
theorem dX12_isHonestAll_23 : decode cX12_isHonestAll 23 = .ok (.aload_n 0, 1) := by decide +kernel
theorem dX12_isHonestAll_24 : decode cX12_isHonestAll 24 = .ok (.iload_n 3, 1) := by decide +kernel
theorem dX12_isHonestAll_25 : decode cX12_isHonestAll 25 = .ok (.iconst 3, 1) := by decide +kernel
theorem dX12_isHonestAll_26 : decode cX12_isHonestAll 26 = .ok (.iload_n 1, 1) := by decide +kernel
theorem dX12_isHonestAll_27 : decode cX12_isHonestAll 27 = .ok (.invokevirtual 464, 3) := by decide +kernel
theorem dX12_isHonestAll_30 : decode cX12_isHonestAll 30 = .ok (.aload_n 0, 1) := by decide +kernel
theorem dX12_isHonestAll_31 : decode cX12_isHonestAll 31 = .ok (.getfield 140, 3) := by decide +kernel
theorem dX12_isHonestAll_34 : decode cX12_isHonestAll 34 = .ok (.iload_n 3, 1) := by decide +kernel
theorem dX12_isHonestAll_35 : decode cX12_isHonestAll 35 = .ok (.iaload, 1) := by decide +kernel
theorem dX12_isHonestAll_36 : decode cX12_isHonestAll 36 = .ok (.if_icmp .ne 7, 3) := by decide +kernel
theorem dX12_isHonestAll_39 : decode cX12_isHonestAll 39 = .ok (.iconst 1, 1) := by decide +kernel
theorem dX12_isHonestAll_40 : decode cX12_isHonestAll 40 = .ok (.goto 4, 3) := by decide +kernel
theorem dX12_isHonestAll_43 : decode cX12_isHonestAll 43 = .ok (.iconst 0, 1) := by decide +kernel
theorem dX12_isHonestAll_44 : decode cX12_isHonestAll 44 = .ok (.istore_n 2, 1) := by decide +kernel
theorem dX12_isHonestAll_45 : decode cX12_isHonestAll 45 = .ok (.iinc 3 1, 3) := by decide +kernel
theorem dX12_isHonestAll_48 : decode cX12_isHonestAll 48 = .ok (.goto (-44), 3) := by decide +kernel
theorem dX12_isHonestAll_51 : decode cX12_isHonestAll 51 = .ok (.iload_n 2, 1) := by decide +kernel
theorem dX12_isHonestAll_52 : decode cX12_isHonestAll 52 = .ok (.ireturn, 1) := by decide +kernel
theorem dX12_isIn_0 : decode cX12_isIn 0 = .ok (.iload_n 0, 1) := by decide +kernel
theorem dX12_isIn_1 : decode cX12_isIn 1 = .ok (.iload_n 1, 1) := by decide +kernel
theorem dX12_isIn_2 : decode cX12_isIn 2 = .ok (.if_icmp .lt 12, 3) := by decide +kernel
theorem dX12_isIn_5 : decode cX12_isIn 5 = .ok (.iload_n 0, 1) := by decide +kernel
theorem dX12_isIn_6 : decode cX12_isIn 6 = .ok (.iload_n 2, 1) := by decide +kernel
theorem dX12_isIn_7 : decode cX12_isIn 7 = .ok (.if_icmp .gt 7, 3) := by decide +kernel
theorem dX12_isIn_10 : decode cX12_isIn 10 = .ok (.iconst 1, 1) := by decide +kernel
theorem dX12_isIn_11 : decode cX12_isIn 11 = .ok (.goto 4, 3) := by decide +kernel
theorem dX12_isIn_14 : decode cX12_isIn 14 = .ok (.iconst 0, 1) := by decide +kernel
theorem dX12_isIn_15 : decode cX12_isIn 15 = .ok (.ireturn, 1) := by decide +kernel
theorem dX12_isKnown_0 : decode cX12_isKnown 0 = .ok (.bipush 12, 2) := by decide +kernel
theorem dX12_isKnown_2 : decode cX12_isKnown 2 = .ok (.istore_n 2, 1) := by decide +kernel
theorem dX12_isKnown_3 : decode cX12_isKnown 3 = .ok (.iload_n 2, 1) := by decide +kernel
theorem dX12_isKnown_4 : decode cX12_isKnown 4 = .ok (.iload_n 1, 1) := by decide +kernel
theorem dX12_isKnown_5 : decode cX12_isKnown 5 = .ok (.if_icmp .ge 98, 3) := by decide +kernel
theorem dX12_isKnown_8 : decode cX12_isKnown 8 = .ok (.aload_n 0, 1) := by decide +kernel
theorem dX12_isKnown_9 : decode cX12_isKnown 9 = .ok (.getfield 69, 3) := by decide +kernel
theorem dX12_isKnown_12 : decode cX12_isKnown 12 = .ok (.iload_n 2, 1) := by decide +kernel
theorem dX12_isKnown_13 : decode cX12_isKnown 13 = .ok (.iaload, 1) := by decide +kernel
theorem dX12_isKnown_14 : decode cX12_isKnown 14 = .ok (.aload_n 0, 1) := by decide +kernel
theorem dX12_isKnown_15 : decode cX12_isKnown 15 = .ok (.getfield 185, 3) := by decide +kernel
theorem dX12_isKnown_18 : decode cX12_isKnown 18 = .ok (.aload_n 0, 1) := by decide +kernel
theorem dX12_isKnown_19 : decode cX12_isKnown 19 = .ok (.getfield 188, 3) := by decide +kernel
theorem dX12_isKnown_22 : decode cX12_isKnown 22 = .ok (.isub, 1) := by decide +kernel
theorem dX12_isKnown_23 : decode cX12_isKnown 23 = .ok (.if_icmp .ne 7, 3) := by decide +kernel
theorem dX12_isKnown_26 : decode cX12_isKnown 26 = .ok (.iconst 1, 1) := by decide +kernel
theorem dX12_isKnown_27 : decode cX12_isKnown 27 = .ok (.goto 4, 3) := by decide +kernel
theorem dX12_isKnown_30 : decode cX12_isKnown 30 = .ok (.iconst 0, 1) := by decide +kernel
theorem dX12_isKnown_31 : decode cX12_isKnown 31 = .ok (.istore_n 3, 1) := by decide +kernel
theorem dX12_isKnown_32 : decode cX12_isKnown 32 = .ok (.iconst 0, 1) := by decide +kernel
theorem dX12_isKnown_33 : decode cX12_isKnown 33 = .ok (.istore 4, 2) := by decide +kernel
theorem dX12_isKnown_35 : decode cX12_isKnown 35 = .ok (.iload 4, 2) := by decide +kernel
theorem dX12_isKnown_37 : decode cX12_isKnown 37 = .ok (.aload_n 0, 1) := by decide +kernel
theorem dX12_isKnown_38 : decode cX12_isKnown 38 = .ok (.getfield 69, 3) := by decide +kernel
theorem dX12_isKnown_41 : decode cX12_isKnown 41 = .ok (.iload_n 2, 1) := by decide +kernel
theorem dX12_isKnown_42 : decode cX12_isKnown 42 = .ok (.iaload, 1) := by decide +kernel
theorem dX12_isKnown_43 : decode cX12_isKnown 43 = .ok (.if_icmp .ge 48, 3) := by decide +kernel
theorem dX12_isKnown_46 : decode cX12_isKnown 46 = .ok (.iload_n 3, 1) := by decide +kernel
theorem dX12_isKnown_47 : decode cX12_isKnown 47 = .ok (.ifCond .eq 44, 3) := by decide +kernel
theorem dX12_isKnown_50 : decode cX12_isKnown 50 = .ok (.aload_n 0, 1) := by decide +kernel
theorem dX12_isKnown_51 : decode cX12_isKnown 51 = .ok (.getfield 78, 3) := by decide +kernel
theorem dX12_isKnown_54 : decode cX12_isKnown 54 = .ok (.aload_n 0, 1) := by decide +kernel
theorem dX12_isKnown_55 : decode cX12_isKnown 55 = .ok (.getfield 66, 3) := by decide +kernel
theorem dX12_isKnown_58 : decode cX12_isKnown 58 = .ok (.iload_n 2, 1) := by decide +kernel
theorem dX12_isKnown_59 : decode cX12_isKnown 59 = .ok (.iaload, 1) := by decide +kernel
theorem dX12_isKnown_60 : decode cX12_isKnown 60 = .ok (.iload 4, 2) := by decide +kernel
theorem dX12_isKnown_62 : decode cX12_isKnown 62 = .ok (.iadd, 1) := by decide +kernel
theorem dX12_isKnown_63 : decode cX12_isKnown 63 = .ok (.iaload, 1) := by decide +kernel
theorem dX12_isKnown_64 : decode cX12_isKnown 64 = .ok (.aload_n 0, 1) := by decide +kernel
theorem dX12_isKnown_65 : decode cX12_isKnown 65 = .ok (.getfield 78, 3) := by decide +kernel
theorem dX12_isKnown_68 : decode cX12_isKnown 68 = .ok (.aload_n 0, 1) := by decide +kernel
theorem dX12_isKnown_69 : decode cX12_isKnown 69 = .ok (.getfield 188, 3) := by decide +kernel
theorem dX12_isKnown_72 : decode cX12_isKnown 72 = .ok (.iload 4, 2) := by decide +kernel
theorem dX12_isKnown_74 : decode cX12_isKnown 74 = .ok (.iadd, 1) := by decide +kernel
theorem dX12_isKnown_75 : decode cX12_isKnown 75 = .ok (.iaload, 1) := by decide +kernel
theorem dX12_isKnown_76 : decode cX12_isKnown 76 = .ok (.if_icmp .ne 7, 3) := by decide +kernel
theorem dX12_isKnown_79 : decode cX12_isKnown 79 = .ok (.iconst 1, 1) := by decide +kernel
theorem dX12_isKnown_80 : decode cX12_isKnown 80 = .ok (.goto 4, 3) := by decide +kernel
theorem dX12_isKnown_83 : decode cX12_isKnown 83 = .ok (.iconst 0, 1) := by decide +kernel
theorem dX12_isKnown_84 : decode cX12_isKnown 84 = .ok (.istore_n 3, 1) := by decide +kernel
theorem dX12_isKnown_85 : decode cX12_isKnown 85 = .ok (.iinc 4 1, 3) := by decide +kernel
theorem dX12_isKnown_88 : decode cX12_isKnown 88 = .ok (.goto (-53), 3) := by decide +kernel
theorem dX12_isKnown_91 : decode cX12_isKnown 91 = .ok (.iload_n 3, 1) := by decide +kernel
theorem dX12_isKnown_92 : decode cX12_isKnown 92 = .ok (.ifCond .eq 5, 3) := by decide +kernel
theorem dX12_isKnown_95 : decode cX12_isKnown 95 = .ok (.iconst 1, 1) := by decide +kernel
theorem dX12_isKnown_96 : decode cX12_isKnown 96 = .ok (.ireturn, 1) := by decide +kernel
theorem dX12_isKnown_97 : decode cX12_isKnown 97 = .ok (.iinc 2 1, 3) := by decide +kernel
theorem dX12_isKnown_100 : decode cX12_isKnown 100 = .ok (.goto (-97), 3) := by decide +kernel
theorem dX12_isKnown_103 : decode cX12_isKnown 103 = .ok (.iconst 0, 1) := by decide +kernel
theorem dX12_isKnown_104 : decode cX12_isKnown 104 = .ok (.ireturn, 1) := by decide +kernel
theorem dX12_isLetter_0 : decode cX12_isLetter 0 = .ok (.iload_n 0, 1) := by decide +kernel
theorem dX12_isLetter_1 : decode cX12_isLetter 1 = .ok (.bipush 97, 2) := by decide +kernel
theorem dX12_isLetter_3 : decode cX12_isLetter 3 = .ok (.bipush 122, 2) := by decide +kernel
theorem dX12_isLetter_5 : decode cX12_isLetter 5 = .ok (.invokestatic 1, 3) := by decide +kernel
theorem dX12_isLetter_8 : decode cX12_isLetter 8 = .ok (.ireturn, 1) := by decide +kernel
theorem dX12_isNever_0 : decode cX12_isNever 0 = .ok (.aload_n 0, 1) := by decide +kernel
theorem dX12_isNever_1 : decode cX12_isNever 1 = .ok (.lload_n 1, 1) := by decide +kernel
theorem dX12_isNever_2 : decode cX12_isNever 2 = .ok (.invokevirtual 174, 3) := by decide +kernel
theorem dX12_isNever_5 : decode cX12_isNever 5 = .ok (.aload_n 0, 1) := by decide +kernel
theorem dX12_isNever_6 : decode cX12_isNever 6 = .ok (.iconst 0, 1) := by decide +kernel
theorem dX12_isNever_7 : decode cX12_isNever 7 = .ok (.putfield 364, 3) := by decide +kernel
theorem dX12_isNever_10 : decode cX12_isNever 10 = .ok (.aload_n 0, 1) := by decide +kernel
theorem dX12_isNever_11 : decode cX12_isNever 11 = .ok (.getfield 364, 3) := by decide +kernel
theorem dX12_isNever_14 : decode cX12_isNever 14 = .ok (.iconst 3, 1) := by decide +kernel
theorem dX12_isNever_15 : decode cX12_isNever 15 = .ok (.if_icmp .ge 101, 3) := by decide +kernel
theorem dX12_isNever_18 : decode cX12_isNever 18 = .ok (.aload_n 0, 1) := by decide +kernel
theorem dX12_isNever_19 : decode cX12_isNever 19 = .ok (.iconst 0, 1) := by decide +kernel
theorem dX12_isNever_20 : decode cX12_isNever 20 = .ok (.putfield 367, 3) := by decide +kernel
theorem dX12_isNever_23 : decode cX12_isNever 23 = .ok (.aload_n 0, 1) := by decide +kernel
theorem dX12_isNever_24 : decode cX12_isNever 24 = .ok (.getfield 367, 3) := by decide +kernel
theorem dX12_isNever_27 : decode cX12_isNever 27 = .ok (.iconst 3, 1) := by decide +kernel
theorem dX12_isNever_28 : decode cX12_isNever 28 = .ok (.if_icmp .ge 75, 3) := by decide +kernel
theorem dX12_isNever_31 : decode cX12_isNever 31 = .ok (.aload_n 0, 1) := by decide +kernel
theorem dX12_isNever_32 : decode cX12_isNever 32 = .ok (.iconst 0, 1) := by decide +kernel
theorem dX12_isNever_33 : decode cX12_isNever 33 = .ok (.putfield 370, 3) := by decide +kernel
theorem dX12_isNever_36 : decode cX12_isNever 36 = .ok (.aload_n 0, 1) := by decide +kernel
theorem dX12_isNever_37 : decode cX12_isNever 37 = .ok (.getfield 370, 3) := by decide +kernel
theorem dX12_isNever_40 : decode cX12_isNever 40 = .ok (.iconst 3, 1) := by decide +kernel
theorem dX12_isNever_41 : decode cX12_isNever 41 = .ok (.if_icmp .ge 49, 3) := by decide +kernel
theorem dX12_isNever_44 : decode cX12_isNever 44 = .ok (.aload_n 0, 1) := by decide +kernel
theorem dX12_isNever_45 : decode cX12_isNever 45 = .ok (.getfield 364, 3) := by decide +kernel
theorem dX12_isNever_48 : decode cX12_isNever 48 = .ok (.aload_n 0, 1) := by decide +kernel
theorem dX12_isNever_49 : decode cX12_isNever 49 = .ok (.getfield 367, 3) := by decide +kernel
theorem dX12_isNever_52 : decode cX12_isNever 52 = .ok (.if_icmp .eq 38, 3) := by decide +kernel
theorem dX12_isNever_55 : decode cX12_isNever 55 = .ok (.aload_n 0, 1) := by decide +kernel
theorem dX12_isNever_56 : decode cX12_isNever 56 = .ok (.iconst 2, 1) := by decide +kernel
theorem dX12_isNever_57 : decode cX12_isNever 57 = .ok (.iload_n 3, 1) := by decide +kernel
theorem dX12_isNever_58 : decode cX12_isNever 58 = .ok (.iadd, 1) := by decide +kernel
theorem dX12_isNever_59 : decode cX12_isNever 59 = .ok (.iconst 0, 1) := by decide +kernel
theorem dX12_isNever_60 : decode cX12_isNever 60 = .ok (.aload_n 0, 1) := by decide +kernel
theorem dX12_isNever_61 : decode cX12_isNever 61 = .ok (.getfield 33, 3) := by decide +kernel
theorem dX12_isNever_64 : decode cX12_isNever 64 = .ok (.iconst 2, 1) := by decide +kernel
theorem dX12_isNever_65 : decode cX12_isNever 65 = .ok (.iload_n 3, 1) := by decide +kernel
theorem dX12_isNever_66 : decode cX12_isNever 66 = .ok (.iadd, 1) := by decide +kernel
theorem dX12_isNever_67 : decode cX12_isNever 67 = .ok (.iaload, 1) := by decide +kernel
theorem dX12_isNever_68 : decode cX12_isNever 68 = .ok (.invokevirtual 380, 3) := by decide +kernel
theorem dX12_isNever_71 : decode cX12_isNever 71 = .ok (.iconst 1, 1) := by decide +kernel
theorem dX12_isNever_72 : decode cX12_isNever 72 = .ok (.if_icmp .ne 5, 3) := by decide +kernel
theorem dX12_isNever_75 : decode cX12_isNever 75 = .ok (.iconst 1, 1) := by decide +kernel
theorem dX12_isNever_76 : decode cX12_isNever 76 = .ok (.ireturn, 1) := by decide +kernel
theorem dX12_isNever_77 : decode cX12_isNever 77 = .ok (.aload_n 0, 1) := by decide +kernel
theorem dX12_isNever_78 : decode cX12_isNever 78 = .ok (.dup, 1) := by decide +kernel
theorem dX12_isNever_79 : decode cX12_isNever 79 = .ok (.getfield 370, 3) := by decide +kernel
theorem dX12_isNever_82 : decode cX12_isNever 82 = .ok (.iconst 1, 1) := by decide +kernel
theorem dX12_isNever_83 : decode cX12_isNever 83 = .ok (.iadd, 1) := by decide +kernel
theorem dX12_isNever_84 : decode cX12_isNever 84 = .ok (.putfield 370, 3) := by decide +kernel
theorem dX12_isNever_87 : decode cX12_isNever 87 = .ok (.goto (-51), 3) := by decide +kernel
theorem dX12_isNever_90 : decode cX12_isNever 90 = .ok (.aload_n 0, 1) := by decide +kernel
theorem dX12_isNever_91 : decode cX12_isNever 91 = .ok (.dup, 1) := by decide +kernel
theorem dX12_isNever_92 : decode cX12_isNever 92 = .ok (.getfield 367, 3) := by decide +kernel
theorem dX12_isNever_95 : decode cX12_isNever 95 = .ok (.iconst 1, 1) := by decide +kernel
theorem dX12_isNever_96 : decode cX12_isNever 96 = .ok (.iadd, 1) := by decide +kernel
theorem dX12_isNever_97 : decode cX12_isNever 97 = .ok (.putfield 367, 3) := by decide +kernel
theorem dX12_isNever_100 : decode cX12_isNever 100 = .ok (.goto (-77), 3) := by decide +kernel
theorem dX12_isNever_103 : decode cX12_isNever 103 = .ok (.aload_n 0, 1) := by decide +kernel
theorem dX12_isNever_104 : decode cX12_isNever 104 = .ok (.dup, 1) := by decide +kernel
theorem dX12_isNever_105 : decode cX12_isNever 105 = .ok (.getfield 364, 3) := by decide +kernel
theorem dX12_isNever_108 : decode cX12_isNever 108 = .ok (.iconst 1, 1) := by decide +kernel
theorem dX12_isNever_109 : decode cX12_isNever 109 = .ok (.iadd, 1) := by decide +kernel
theorem dX12_isNever_110 : decode cX12_isNever 110 = .ok (.putfield 364, 3) := by decide +kernel
theorem dX12_isNever_113 : decode cX12_isNever 113 = .ok (.goto (-103), 3) := by decide +kernel
theorem dX12_isNever_116 : decode cX12_isNever 116 = .ok (.iconst 0, 1) := by decide +kernel
theorem dX12_isNever_117 : decode cX12_isNever 117 = .ok (.ireturn, 1) := by decide +kernel
theorem dX12_isNeverText_0 : decode cX12_isNeverText 0 = .ok (.iload_n 1, 1) := by decide +kernel
theorem dX12_isNeverText_1 : decode cX12_isNeverText 1 = .ok (.iconst 0, 1) := by decide +kernel
theorem dX12_isNeverText_2 : decode cX12_isNeverText 2 = .ok (.aload_n 0, 1) := by decide +kernel
theorem dX12_isNeverText_3 : decode cX12_isNeverText 3 = .ok (.getfield 352, 3) := by decide +kernel
theorem dX12_isNeverText_6 : decode cX12_isNeverText 6 = .ok (.iconst 1, 1) := by decide +kernel
theorem dX12_isNeverText_7 : decode cX12_isNeverText 7 = .ok (.isub, 1) := by decide +kernel
theorem dX12_isNeverText_8 : decode cX12_isNeverText 8 = .ok (.invokestatic 1, 3) := by decide +kernel
theorem dX12_isNeverText_11 : decode cX12_isNeverText 11 = .ok (.ireturn, 1) := by decide +kernel
theorem dX12_isNumber_0 : decode cX12_isNumber 0 = .ok (.iload_n 0, 1) := by decide +kernel
theorem dX12_isNumber_1 : decode cX12_isNumber 1 = .ok (.iconst 0, 1) := by decide +kernel
theorem dX12_isNumber_2 : decode cX12_isNumber 2 = .ok (.sipush 767, 3) := by decide +kernel
theorem dX12_isNumber_5 : decode cX12_isNumber 5 = .ok (.invokestatic 1, 3) := by decide +kernel
theorem dX12_isNumber_8 : decode cX12_isNumber 8 = .ok (.ireturn, 1) := by decide +kernel
theorem dX12_isOne_0 : decode cX12_isOne 0 = .ok (.iload_n 0, 1) := by decide +kernel
theorem dX12_isOne_1 : decode cX12_isOne 1 = .ok (.iconst 0, 1) := by decide +kernel
theorem dX12_isOne_2 : decode cX12_isOne 2 = .ok (.iconst 2, 1) := by decide +kernel
theorem dX12_isOne_3 : decode cX12_isOne 3 = .ok (.invokestatic 1, 3) := by decide +kernel
theorem dX12_isOne_6 : decode cX12_isOne 6 = .ok (.ireturn, 1) := by decide +kernel
theorem dX12_isRow_0 : decode cX12_isRow 0 = .ok (.iload_n 0, 1) := by decide +kernel
theorem dX12_isRow_1 : decode cX12_isRow 1 = .ok (.iconst 0, 1) := by decide +kernel
theorem dX12_isRow_2 : decode cX12_isRow 2 = .ok (.iconst 5, 1) := by decide +kernel
theorem dX12_isRow_3 : decode cX12_isRow 3 = .ok (.invokestatic 1, 3) := by decide +kernel
theorem dX12_isRow_6 : decode cX12_isRow 6 = .ok (.ireturn, 1) := by decide +kernel
theorem dX12_keeps_0 : decode cX12_keeps 0 = .ok (.aload_n 0, 1) := by decide +kernel
theorem dX12_keeps_1 : decode cX12_keeps 1 = .ok (.getfield 33, 3) := by decide +kernel
theorem dX12_keeps_4 : decode cX12_keeps 4 = .ok (.iload_n 1, 1) := by decide +kernel
theorem dX12_keeps_5 : decode cX12_keeps 5 = .ok (.aload_n 0, 1) := by decide +kernel
theorem dX12_keeps_6 : decode cX12_keeps 6 = .ok (.getfield 33, 3) := by decide +kernel
theorem dX12_keeps_9 : decode cX12_keeps 9 = .ok (.bipush 13, 2) := by decide +kernel
theorem dX12_keeps_11 : decode cX12_keeps 11 = .ok (.iaload, 1) := by decide +kernel
theorem dX12_keeps_12 : decode cX12_keeps 12 = .ok (.iastore, 1) := by decide +kernel
theorem dX12_keeps_13 : decode cX12_keeps 13 = .ok (.iconst 0, 1) := by decide +kernel
theorem dX12_keeps_14 : decode cX12_keeps 14 = .ok (.istore_n 2, 1) := by decide +kernel
theorem dX12_keeps_15 : decode cX12_keeps 15 = .ok (.iload_n 2, 1) := by decide +kernel
theorem dX12_keeps_16 : decode cX12_keeps 16 = .ok (.iconst 2, 1) := by decide +kernel
theorem dX12_keeps_17 : decode cX12_keeps 17 = .ok (.aload_n 0, 1) := by decide +kernel
theorem dX12_keeps_18 : decode cX12_keeps 18 = .ok (.getfield 33, 3) := by decide +kernel
theorem dX12_keeps_21 : decode cX12_keeps 21 = .ok (.bipush 13, 2) := by decide +kernel
theorem dX12_keeps_23 : decode cX12_keeps 23 = .ok (.iaload, 1) := by decide +kernel
theorem dX12_keeps_24 : decode cX12_keeps 24 = .ok (.imul, 1) := by decide +kernel
theorem dX12_keeps_25 : decode cX12_keeps 25 = .ok (.if_icmp .ge 31, 3) := by decide +kernel
theorem dX12_keeps_28 : decode cX12_keeps 28 = .ok (.aload_n 0, 1) := by decide +kernel
theorem dX12_keeps_29 : decode cX12_keeps 29 = .ok (.getfield 30, 3) := by decide +kernel
theorem dX12_keeps_32 : decode cX12_keeps 32 = .ok (.sipush 1440, 3) := by decide +kernel
theorem dX12_keeps_35 : decode cX12_keeps 35 = .ok (.iload_n 1, 1) := by decide +kernel
theorem dX12_keeps_36 : decode cX12_keeps 36 = .ok (.imul, 1) := by decide +kernel
theorem dX12_keeps_37 : decode cX12_keeps 37 = .ok (.iload_n 2, 1) := by decide +kernel
theorem dX12_keeps_38 : decode cX12_keeps 38 = .ok (.iadd, 1) := by decide +kernel
theorem dX12_keeps_39 : decode cX12_keeps 39 = .ok (.aload_n 0, 1) := by decide +kernel
theorem dX12_keeps_40 : decode cX12_keeps 40 = .ok (.getfield 30, 3) := by decide +kernel
theorem dX12_keeps_43 : decode cX12_keeps 43 = .ok (.sipush 18720, 3) := by decide +kernel
theorem dX12_keeps_46 : decode cX12_keeps 46 = .ok (.iload_n 2, 1) := by decide +kernel
theorem dX12_keeps_47 : decode cX12_keeps 47 = .ok (.iadd, 1) := by decide +kernel
theorem dX12_keeps_48 : decode cX12_keeps 48 = .ok (.iaload, 1) := by decide +kernel
theorem dX12_keeps_49 : decode cX12_keeps 49 = .ok (.iastore, 1) := by decide +kernel
theorem dX12_keeps_50 : decode cX12_keeps 50 = .ok (.iinc 2 1, 3) := by decide +kernel
theorem dX12_keeps_53 : decode cX12_keeps 53 = .ok (.goto (-38), 3) := by decide +kernel
theorem dX12_keeps_56 : decode cX12_keeps 56 = .ok (.return_, 1) := by decide +kernel
theorem dX12_keepsAct_0 : decode cX12_keepsAct 0 = .ok (.aload_n 0, 1) := by decide +kernel
theorem dX12_keepsAct_1 : decode cX12_keepsAct 1 = .ok (.getfield 39, 3) := by decide +kernel
theorem dX12_keepsAct_4 : decode cX12_keepsAct 4 = .ok (.iload_n 1, 1) := by decide +kernel
theorem dX12_keepsAct_5 : decode cX12_keepsAct 5 = .ok (.aload_n 0, 1) := by decide +kernel
theorem dX12_keepsAct_6 : decode cX12_keepsAct 6 = .ok (.getfield 39, 3) := by decide +kernel
theorem dX12_keepsAct_9 : decode cX12_keepsAct 9 = .ok (.iload_n 2, 1) := by decide +kernel
theorem dX12_keepsAct_10 : decode cX12_keepsAct 10 = .ok (.iaload, 1) := by decide +kernel
theorem dX12_keepsAct_11 : decode cX12_keepsAct 11 = .ok (.iastore, 1) := by decide +kernel
theorem dX12_keepsAct_12 : decode cX12_keepsAct 12 = .ok (.aload_n 0, 1) := by decide +kernel
theorem dX12_keepsAct_13 : decode cX12_keepsAct 13 = .ok (.getfield 42, 3) := by decide +kernel
theorem dX12_keepsAct_16 : decode cX12_keepsAct 16 = .ok (.iload_n 1, 1) := by decide +kernel
theorem dX12_keepsAct_17 : decode cX12_keepsAct 17 = .ok (.aload_n 0, 1) := by decide +kernel
theorem dX12_keepsAct_18 : decode cX12_keepsAct 18 = .ok (.getfield 42, 3) := by decide +kernel
theorem dX12_keepsAct_21 : decode cX12_keepsAct 21 = .ok (.iload_n 2, 1) := by decide +kernel
theorem dX12_keepsAct_22 : decode cX12_keepsAct 22 = .ok (.iaload, 1) := by decide +kernel
theorem dX12_keepsAct_23 : decode cX12_keepsAct 23 = .ok (.iastore, 1) := by decide +kernel
theorem dX12_keepsAct_24 : decode cX12_keepsAct 24 = .ok (.aload_n 0, 1) := by decide +kernel
theorem dX12_keepsAct_25 : decode cX12_keepsAct 25 = .ok (.getfield 72, 3) := by decide +kernel
theorem dX12_keepsAct_28 : decode cX12_keepsAct 28 = .ok (.iload_n 1, 1) := by decide +kernel
theorem dX12_keepsAct_29 : decode cX12_keepsAct 29 = .ok (.aload_n 0, 1) := by decide +kernel
theorem dX12_keepsAct_30 : decode cX12_keepsAct 30 = .ok (.getfield 72, 3) := by decide +kernel
theorem dX12_keepsAct_33 : decode cX12_keepsAct 33 = .ok (.iload_n 2, 1) := by decide +kernel
theorem dX12_keepsAct_34 : decode cX12_keepsAct 34 = .ok (.baload, 1) := by decide +kernel
theorem dX12_keepsAct_35 : decode cX12_keepsAct 35 = .ok (.bastore, 1) := by decide +kernel
theorem dX12_keepsAct_36 : decode cX12_keepsAct 36 = .ok (.aload_n 0, 1) := by decide +kernel
theorem dX12_keepsAct_37 : decode cX12_keepsAct 37 = .ok (.getfield 75, 3) := by decide +kernel
theorem dX12_keepsAct_40 : decode cX12_keepsAct 40 = .ok (.iload_n 1, 1) := by decide +kernel
theorem dX12_keepsAct_41 : decode cX12_keepsAct 41 = .ok (.aload_n 0, 1) := by decide +kernel
theorem dX12_keepsAct_42 : decode cX12_keepsAct 42 = .ok (.getfield 75, 3) := by decide +kernel
theorem dX12_keepsAct_45 : decode cX12_keepsAct 45 = .ok (.iload_n 2, 1) := by decide +kernel
theorem dX12_keepsAct_46 : decode cX12_keepsAct 46 = .ok (.baload, 1) := by decide +kernel
theorem dX12_keepsAct_47 : decode cX12_keepsAct 47 = .ok (.bastore, 1) := by decide +kernel
theorem dX12_keepsAct_48 : decode cX12_keepsAct 48 = .ok (.iconst 0, 1) := by decide +kernel
theorem dX12_keepsAct_49 : decode cX12_keepsAct 49 = .ok (.istore_n 3, 1) := by decide +kernel
theorem dX12_keepsAct_50 : decode cX12_keepsAct 50 = .ok (.iload_n 3, 1) := by decide +kernel
theorem dX12_keepsAct_51 : decode cX12_keepsAct 51 = .ok (.iconst 4, 1) := by decide +kernel
theorem dX12_keepsAct_52 : decode cX12_keepsAct 52 = .ok (.if_icmp .ge 49, 3) := by decide +kernel
theorem dX12_keepsAct_55 : decode cX12_keepsAct 55 = .ok (.aload_n 0, 1) := by decide +kernel
theorem dX12_keepsAct_56 : decode cX12_keepsAct 56 = .ok (.getfield 45, 3) := by decide +kernel
theorem dX12_keepsAct_59 : decode cX12_keepsAct 59 = .ok (.iconst 4, 1) := by decide +kernel
theorem dX12_keepsAct_60 : decode cX12_keepsAct 60 = .ok (.iload_n 1, 1) := by decide +kernel
theorem dX12_keepsAct_61 : decode cX12_keepsAct 61 = .ok (.imul, 1) := by decide +kernel
theorem dX12_keepsAct_62 : decode cX12_keepsAct 62 = .ok (.iload_n 3, 1) := by decide +kernel
theorem dX12_keepsAct_63 : decode cX12_keepsAct 63 = .ok (.iadd, 1) := by decide +kernel
theorem dX12_keepsAct_64 : decode cX12_keepsAct 64 = .ok (.aload_n 0, 1) := by decide +kernel
theorem dX12_keepsAct_65 : decode cX12_keepsAct 65 = .ok (.getfield 45, 3) := by decide +kernel
theorem dX12_keepsAct_68 : decode cX12_keepsAct 68 = .ok (.iconst 4, 1) := by decide +kernel
theorem dX12_keepsAct_69 : decode cX12_keepsAct 69 = .ok (.iload_n 2, 1) := by decide +kernel
theorem dX12_keepsAct_70 : decode cX12_keepsAct 70 = .ok (.imul, 1) := by decide +kernel
theorem dX12_keepsAct_71 : decode cX12_keepsAct 71 = .ok (.iload_n 3, 1) := by decide +kernel
theorem dX12_keepsAct_72 : decode cX12_keepsAct 72 = .ok (.iadd, 1) := by decide +kernel
theorem dX12_keepsAct_73 : decode cX12_keepsAct 73 = .ok (.iaload, 1) := by decide +kernel
theorem dX12_keepsAct_74 : decode cX12_keepsAct 74 = .ok (.iastore, 1) := by decide +kernel
theorem dX12_keepsAct_75 : decode cX12_keepsAct 75 = .ok (.aload_n 0, 1) := by decide +kernel
theorem dX12_keepsAct_76 : decode cX12_keepsAct 76 = .ok (.getfield 48, 3) := by decide +kernel
theorem dX12_keepsAct_79 : decode cX12_keepsAct 79 = .ok (.iconst 4, 1) := by decide +kernel
theorem dX12_keepsAct_80 : decode cX12_keepsAct 80 = .ok (.iload_n 1, 1) := by decide +kernel
theorem dX12_keepsAct_81 : decode cX12_keepsAct 81 = .ok (.imul, 1) := by decide +kernel
theorem dX12_keepsAct_82 : decode cX12_keepsAct 82 = .ok (.iload_n 3, 1) := by decide +kernel
theorem dX12_keepsAct_83 : decode cX12_keepsAct 83 = .ok (.iadd, 1) := by decide +kernel
theorem dX12_keepsAct_84 : decode cX12_keepsAct 84 = .ok (.aload_n 0, 1) := by decide +kernel
theorem dX12_keepsAct_85 : decode cX12_keepsAct 85 = .ok (.getfield 48, 3) := by decide +kernel
theorem dX12_keepsAct_88 : decode cX12_keepsAct 88 = .ok (.iconst 4, 1) := by decide +kernel
theorem dX12_keepsAct_89 : decode cX12_keepsAct 89 = .ok (.iload_n 2, 1) := by decide +kernel
theorem dX12_keepsAct_90 : decode cX12_keepsAct 90 = .ok (.imul, 1) := by decide +kernel
theorem dX12_keepsAct_91 : decode cX12_keepsAct 91 = .ok (.iload_n 3, 1) := by decide +kernel
theorem dX12_keepsAct_92 : decode cX12_keepsAct 92 = .ok (.iadd, 1) := by decide +kernel
theorem dX12_keepsAct_93 : decode cX12_keepsAct 93 = .ok (.iaload, 1) := by decide +kernel
theorem dX12_keepsAct_94 : decode cX12_keepsAct 94 = .ok (.iastore, 1) := by decide +kernel
theorem dX12_keepsAct_95 : decode cX12_keepsAct 95 = .ok (.iinc 3 1, 3) := by decide +kernel
theorem dX12_keepsAct_98 : decode cX12_keepsAct 98 = .ok (.goto (-48), 3) := by decide +kernel
theorem dX12_keepsAct_101 : decode cX12_keepsAct 101 = .ok (.iconst 0, 1) := by decide +kernel
theorem dX12_keepsAct_102 : decode cX12_keepsAct 102 = .ok (.istore_n 3, 1) := by decide +kernel
theorem dX12_keepsAct_103 : decode cX12_keepsAct 103 = .ok (.iload_n 3, 1) := by decide +kernel
theorem dX12_keepsAct_104 : decode cX12_keepsAct 104 = .ok (.bipush 6, 2) := by decide +kernel
theorem dX12_keepsAct_106 : decode cX12_keepsAct 106 = .ok (.if_icmp .ge 119, 3) := by decide +kernel
theorem dX12_keepsAct_109 : decode cX12_keepsAct 109 = .ok (.aload_n 0, 1) := by decide +kernel
theorem dX12_keepsAct_110 : decode cX12_keepsAct 110 = .ok (.getfield 51, 3) := by decide +kernel
theorem dX12_keepsAct_113 : decode cX12_keepsAct 113 = .ok (.bipush 6, 2) := by decide +kernel
theorem dX12_keepsAct_115 : decode cX12_keepsAct 115 = .ok (.iload_n 1, 1) := by decide +kernel
theorem dX12_keepsAct_116 : decode cX12_keepsAct 116 = .ok (.imul, 1) := by decide +kernel
theorem dX12_keepsAct_117 : decode cX12_keepsAct 117 = .ok (.iload_n 3, 1) := by decide +kernel
theorem dX12_keepsAct_118 : decode cX12_keepsAct 118 = .ok (.iadd, 1) := by decide +kernel
theorem dX12_keepsAct_119 : decode cX12_keepsAct 119 = .ok (.aload_n 0, 1) := by decide +kernel
theorem dX12_keepsAct_120 : decode cX12_keepsAct 120 = .ok (.getfield 51, 3) := by decide +kernel
theorem dX12_keepsAct_123 : decode cX12_keepsAct 123 = .ok (.bipush 6, 2) := by decide +kernel
theorem dX12_keepsAct_125 : decode cX12_keepsAct 125 = .ok (.iload_n 2, 1) := by decide +kernel
theorem dX12_keepsAct_126 : decode cX12_keepsAct 126 = .ok (.imul, 1) := by decide +kernel
theorem dX12_keepsAct_127 : decode cX12_keepsAct 127 = .ok (.iload_n 3, 1) := by decide +kernel
theorem dX12_keepsAct_128 : decode cX12_keepsAct 128 = .ok (.iadd, 1) := by decide +kernel
theorem dX12_keepsAct_129 : decode cX12_keepsAct 129 = .ok (.iaload, 1) := by decide +kernel
theorem dX12_keepsAct_130 : decode cX12_keepsAct 130 = .ok (.iastore, 1) := by decide +kernel
theorem dX12_keepsAct_131 : decode cX12_keepsAct 131 = .ok (.aload_n 0, 1) := by decide +kernel
theorem dX12_keepsAct_132 : decode cX12_keepsAct 132 = .ok (.getfield 54, 3) := by decide +kernel
theorem dX12_keepsAct_135 : decode cX12_keepsAct 135 = .ok (.bipush 6, 2) := by decide +kernel
theorem dX12_keepsAct_137 : decode cX12_keepsAct 137 = .ok (.iload_n 1, 1) := by decide +kernel
theorem dX12_keepsAct_138 : decode cX12_keepsAct 138 = .ok (.imul, 1) := by decide +kernel
theorem dX12_keepsAct_139 : decode cX12_keepsAct 139 = .ok (.iload_n 3, 1) := by decide +kernel
theorem dX12_keepsAct_140 : decode cX12_keepsAct 140 = .ok (.iadd, 1) := by decide +kernel
theorem dX12_keepsAct_141 : decode cX12_keepsAct 141 = .ok (.aload_n 0, 1) := by decide +kernel
theorem dX12_keepsAct_142 : decode cX12_keepsAct 142 = .ok (.getfield 54, 3) := by decide +kernel
theorem dX12_keepsAct_145 : decode cX12_keepsAct 145 = .ok (.bipush 6, 2) := by decide +kernel
theorem dX12_keepsAct_147 : decode cX12_keepsAct 147 = .ok (.iload_n 2, 1) := by decide +kernel
theorem dX12_keepsAct_148 : decode cX12_keepsAct 148 = .ok (.imul, 1) := by decide +kernel
theorem dX12_keepsAct_149 : decode cX12_keepsAct 149 = .ok (.iload_n 3, 1) := by decide +kernel
theorem dX12_keepsAct_150 : decode cX12_keepsAct 150 = .ok (.iadd, 1) := by decide +kernel
theorem dX12_keepsAct_151 : decode cX12_keepsAct 151 = .ok (.iaload, 1) := by decide +kernel
theorem dX12_keepsAct_152 : decode cX12_keepsAct 152 = .ok (.iastore, 1) := by decide +kernel
theorem dX12_keepsAct_153 : decode cX12_keepsAct 153 = .ok (.aload_n 0, 1) := by decide +kernel
theorem dX12_keepsAct_154 : decode cX12_keepsAct 154 = .ok (.getfield 57, 3) := by decide +kernel
theorem dX12_keepsAct_157 : decode cX12_keepsAct 157 = .ok (.bipush 6, 2) := by decide +kernel
theorem dX12_keepsAct_159 : decode cX12_keepsAct 159 = .ok (.iload_n 1, 1) := by decide +kernel
theorem dX12_keepsAct_160 : decode cX12_keepsAct 160 = .ok (.imul, 1) := by decide +kernel
theorem dX12_keepsAct_161 : decode cX12_keepsAct 161 = .ok (.iload_n 3, 1) := by decide +kernel
theorem dX12_keepsAct_162 : decode cX12_keepsAct 162 = .ok (.iadd, 1) := by decide +kernel
theorem dX12_keepsAct_163 : decode cX12_keepsAct 163 = .ok (.aload_n 0, 1) := by decide +kernel
theorem dX12_keepsAct_164 : decode cX12_keepsAct 164 = .ok (.getfield 57, 3) := by decide +kernel
theorem dX12_keepsAct_167 : decode cX12_keepsAct 167 = .ok (.bipush 6, 2) := by decide +kernel
theorem dX12_keepsAct_169 : decode cX12_keepsAct 169 = .ok (.iload_n 2, 1) := by decide +kernel
theorem dX12_keepsAct_170 : decode cX12_keepsAct 170 = .ok (.imul, 1) := by decide +kernel
theorem dX12_keepsAct_171 : decode cX12_keepsAct 171 = .ok (.iload_n 3, 1) := by decide +kernel
theorem dX12_keepsAct_172 : decode cX12_keepsAct 172 = .ok (.iadd, 1) := by decide +kernel
theorem dX12_keepsAct_173 : decode cX12_keepsAct 173 = .ok (.iaload, 1) := by decide +kernel
theorem dX12_keepsAct_174 : decode cX12_keepsAct 174 = .ok (.iastore, 1) := by decide +kernel
theorem dX12_keepsAct_175 : decode cX12_keepsAct 175 = .ok (.aload_n 0, 1) := by decide +kernel
theorem dX12_keepsAct_176 : decode cX12_keepsAct 176 = .ok (.getfield 60, 3) := by decide +kernel
theorem dX12_keepsAct_179 : decode cX12_keepsAct 179 = .ok (.bipush 6, 2) := by decide +kernel
theorem dX12_keepsAct_181 : decode cX12_keepsAct 181 = .ok (.iload_n 1, 1) := by decide +kernel
theorem dX12_keepsAct_182 : decode cX12_keepsAct 182 = .ok (.imul, 1) := by decide +kernel
theorem dX12_keepsAct_183 : decode cX12_keepsAct 183 = .ok (.iload_n 3, 1) := by decide +kernel
theorem dX12_keepsAct_184 : decode cX12_keepsAct 184 = .ok (.iadd, 1) := by decide +kernel
theorem dX12_keepsAct_185 : decode cX12_keepsAct 185 = .ok (.aload_n 0, 1) := by decide +kernel
theorem dX12_keepsAct_186 : decode cX12_keepsAct 186 = .ok (.getfield 60, 3) := by decide +kernel
theorem dX12_keepsAct_189 : decode cX12_keepsAct 189 = .ok (.bipush 6, 2) := by decide +kernel
theorem dX12_keepsAct_191 : decode cX12_keepsAct 191 = .ok (.iload_n 2, 1) := by decide +kernel
theorem dX12_keepsAct_192 : decode cX12_keepsAct 192 = .ok (.imul, 1) := by decide +kernel
theorem dX12_keepsAct_193 : decode cX12_keepsAct 193 = .ok (.iload_n 3, 1) := by decide +kernel
theorem dX12_keepsAct_194 : decode cX12_keepsAct 194 = .ok (.iadd, 1) := by decide +kernel
theorem dX12_keepsAct_195 : decode cX12_keepsAct 195 = .ok (.iaload, 1) := by decide +kernel
theorem dX12_keepsAct_196 : decode cX12_keepsAct 196 = .ok (.iastore, 1) := by decide +kernel
theorem dX12_keepsAct_197 : decode cX12_keepsAct 197 = .ok (.aload_n 0, 1) := by decide +kernel
theorem dX12_keepsAct_198 : decode cX12_keepsAct 198 = .ok (.getfield 63, 3) := by decide +kernel
theorem dX12_keepsAct_201 : decode cX12_keepsAct 201 = .ok (.bipush 6, 2) := by decide +kernel
theorem dX12_keepsAct_203 : decode cX12_keepsAct 203 = .ok (.iload_n 1, 1) := by decide +kernel
theorem dX12_keepsAct_204 : decode cX12_keepsAct 204 = .ok (.imul, 1) := by decide +kernel
theorem dX12_keepsAct_205 : decode cX12_keepsAct 205 = .ok (.iload_n 3, 1) := by decide +kernel
theorem dX12_keepsAct_206 : decode cX12_keepsAct 206 = .ok (.iadd, 1) := by decide +kernel
theorem dX12_keepsAct_207 : decode cX12_keepsAct 207 = .ok (.aload_n 0, 1) := by decide +kernel
theorem dX12_keepsAct_208 : decode cX12_keepsAct 208 = .ok (.getfield 63, 3) := by decide +kernel
theorem dX12_keepsAct_211 : decode cX12_keepsAct 211 = .ok (.bipush 6, 2) := by decide +kernel
theorem dX12_keepsAct_213 : decode cX12_keepsAct 213 = .ok (.iload_n 2, 1) := by decide +kernel
theorem dX12_keepsAct_214 : decode cX12_keepsAct 214 = .ok (.imul, 1) := by decide +kernel
theorem dX12_keepsAct_215 : decode cX12_keepsAct 215 = .ok (.iload_n 3, 1) := by decide +kernel
theorem dX12_keepsAct_216 : decode cX12_keepsAct 216 = .ok (.iadd, 1) := by decide +kernel
theorem dX12_keepsAct_217 : decode cX12_keepsAct 217 = .ok (.iaload, 1) := by decide +kernel
theorem dX12_keepsAct_218 : decode cX12_keepsAct 218 = .ok (.iastore, 1) := by decide +kernel
theorem dX12_keepsAct_219 : decode cX12_keepsAct 219 = .ok (.iinc 3 1, 3) := by decide +kernel
theorem dX12_keepsAct_222 : decode cX12_keepsAct 222 = .ok (.goto (-119), 3) := by decide +kernel
theorem dX12_keepsAct_225 : decode cX12_keepsAct 225 = .ok (.return_, 1) := by decide +kernel
theorem dX12_kin_0 : decode cX12_kin 0 = .ok (.iload_n 1, 1) := by decide +kernel
theorem dX12_kin_1 : decode cX12_kin 1 = .ok (.invokestatic 170, 3) := by decide +kernel
theorem dX12_kin_4 : decode cX12_kin 4 = .ok (.ifCond .eq 24, 3) := by decide +kernel
theorem dX12_kin_7 : decode cX12_kin 7 = .ok (.iload_n 2, 1) := by decide +kernel
theorem dX12_kin_8 : decode cX12_kin 8 = .ok (.invokestatic 170, 3) := by decide +kernel
theorem dX12_kin_11 : decode cX12_kin 11 = .ok (.ifCond .eq 17, 3) := by decide +kernel
theorem dX12_kin_14 : decode cX12_kin 14 = .ok (.iload_n 1, 1) := by decide +kernel
theorem dX12_kin_15 : decode cX12_kin 15 = .ok (.iload_n 2, 1) := by decide +kernel
theorem dX12_kin_16 : decode cX12_kin 16 = .ok (.if_icmp .eq 12, 3) := by decide +kernel
theorem dX12_kin_19 : decode cX12_kin 19 = .ok (.iload_n 3, 1) := by decide +kernel
theorem dX12_kin_20 : decode cX12_kin 20 = .ok (.iconst 0, 1) := by decide +kernel
theorem dX12_kin_21 : decode cX12_kin 21 = .ok (.iconst 1, 1) := by decide +kernel
theorem dX12_kin_22 : decode cX12_kin 22 = .ok (.invokestatic 1, 3) := by decide +kernel
theorem dX12_kin_25 : decode cX12_kin 25 = .ok (.ifCond .ne 5, 3) := by decide +kernel
theorem dX12_kin_28 : decode cX12_kin 28 = .ok (.iconst 0, 1) := by decide +kernel
theorem dX12_kin_29 : decode cX12_kin 29 = .ok (.ireturn, 1) := by decide +kernel
theorem dX12_kin_30 : decode cX12_kin 30 = .ok (.aload_n 0, 1) := by decide +kernel
theorem dX12_kin_31 : decode cX12_kin 31 = .ok (.aload_n 0, 1) := by decide +kernel
theorem dX12_kin_32 : decode cX12_kin 32 = .ok (.getfield 153, 3) := by decide +kernel
theorem dX12_kin_35 : decode cX12_kin 35 = .ok (.invokevirtual 174, 3) := by decide +kernel
theorem dX12_kin_38 : decode cX12_kin 38 = .ok (.iload_n 3, 1) := by decide +kernel
theorem dX12_kin_39 : decode cX12_kin 39 = .ok (.iconst 1, 1) := by decide +kernel
theorem dX12_kin_40 : decode cX12_kin 40 = .ok (.if_icmp .ne 18, 3) := by decide +kernel
theorem dX12_kin_43 : decode cX12_kin 43 = .ok (.aload_n 0, 1) := by decide +kernel
theorem dX12_kin_44 : decode cX12_kin 44 = .ok (.getfield 27, 3) := by decide +kernel
theorem dX12_kin_47 : decode cX12_kin 47 = .ok (.iconst 3, 1) := by decide +kernel
theorem dX12_kin_48 : decode cX12_kin 48 = .ok (.iload_n 1, 1) := by decide +kernel
theorem dX12_kin_49 : decode cX12_kin 49 = .ok (.imul, 1) := by decide +kernel
theorem dX12_kin_50 : decode cX12_kin 50 = .ok (.iload_n 2, 1) := by decide +kernel
theorem dX12_kin_51 : decode cX12_kin 51 = .ok (.iadd, 1) := by decide +kernel
theorem dX12_kin_52 : decode cX12_kin 52 = .ok (.iload 4, 2) := by decide +kernel
theorem dX12_kin_54 : decode cX12_kin 54 = .ok (.bastore, 1) := by decide +kernel
theorem dX12_kin_55 : decode cX12_kin 55 = .ok (.goto 27, 3) := by decide +kernel
theorem dX12_kin_58 : decode cX12_kin 58 = .ok (.aload_n 0, 1) := by decide +kernel
theorem dX12_kin_59 : decode cX12_kin 59 = .ok (.getfield 23, 3) := by decide +kernel
theorem dX12_kin_62 : decode cX12_kin 62 = .ok (.iconst 3, 1) := by decide +kernel
theorem dX12_kin_63 : decode cX12_kin 63 = .ok (.iload_n 1, 1) := by decide +kernel
theorem dX12_kin_64 : decode cX12_kin 64 = .ok (.imul, 1) := by decide +kernel
theorem dX12_kin_65 : decode cX12_kin 65 = .ok (.iload_n 2, 1) := by decide +kernel
theorem dX12_kin_66 : decode cX12_kin 66 = .ok (.iadd, 1) := by decide +kernel
theorem dX12_kin_67 : decode cX12_kin 67 = .ok (.iload 4, 2) := by decide +kernel
theorem dX12_kin_69 : decode cX12_kin 69 = .ok (.bastore, 1) := by decide +kernel
theorem dX12_kin_70 : decode cX12_kin 70 = .ok (.aload_n 0, 1) := by decide +kernel
theorem dX12_kin_71 : decode cX12_kin 71 = .ok (.getfield 23, 3) := by decide +kernel
theorem dX12_kin_74 : decode cX12_kin 74 = .ok (.iconst 3, 1) := by decide +kernel
theorem dX12_kin_75 : decode cX12_kin 75 = .ok (.iload_n 2, 1) := by decide +kernel
theorem dX12_kin_76 : decode cX12_kin 76 = .ok (.imul, 1) := by decide +kernel
theorem dX12_kin_77 : decode cX12_kin 77 = .ok (.iload_n 1, 1) := by decide +kernel
theorem dX12_kin_78 : decode cX12_kin 78 = .ok (.iadd, 1) := by decide +kernel
theorem dX12_kin_79 : decode cX12_kin 79 = .ok (.iload 4, 2) := by decide +kernel
theorem dX12_kin_81 : decode cX12_kin 81 = .ok (.bastore, 1) := by decide +kernel
theorem dX12_kin_82 : decode cX12_kin 82 = .ok (.aload_n 0, 1) := by decide +kernel
theorem dX12_kin_83 : decode cX12_kin 83 = .ok (.invokevirtual 178, 3) := by decide +kernel
theorem dX12_kin_86 : decode cX12_kin 86 = .ok (.ireturn, 1) := by decide +kernel
theorem dX12_lawful_0 : decode cX12_lawful 0 = .ok (.iload_n 1, 1) := by decide +kernel
theorem dX12_lawful_1 : decode cX12_lawful 1 = .ok (.invokestatic 452, 3) := by decide +kernel
theorem dX12_lawful_4 : decode cX12_lawful 4 = .ok (.ifCond .eq 32, 3) := by decide +kernel
theorem dX12_lawful_7 : decode cX12_lawful 7 = .ok (.iload_n 2, 1) := by decide +kernel
theorem dX12_lawful_8 : decode cX12_lawful 8 = .ok (.iconst 1, 1) := by decide +kernel
theorem dX12_lawful_9 : decode cX12_lawful 9 = .ok (.iconst 3, 1) := by decide +kernel
theorem dX12_lawful_10 : decode cX12_lawful 10 = .ok (.invokestatic 1, 3) := by decide +kernel
theorem dX12_lawful_13 : decode cX12_lawful 13 = .ok (.ifCond .eq 23, 3) := by decide +kernel
theorem dX12_lawful_16 : decode cX12_lawful 16 = .ok (.iload_n 3, 1) := by decide +kernel
theorem dX12_lawful_17 : decode cX12_lawful 17 = .ok (.iconst 0, 1) := by decide +kernel
theorem dX12_lawful_18 : decode cX12_lawful 18 = .ok (.bipush 31, 2) := by decide +kernel
theorem dX12_lawful_20 : decode cX12_lawful 20 = .ok (.invokestatic 1, 3) := by decide +kernel
theorem dX12_lawful_23 : decode cX12_lawful 23 = .ok (.ifCond .eq 13, 3) := by decide +kernel
theorem dX12_lawful_26 : decode cX12_lawful 26 = .ok (.iload 4, 2) := by decide +kernel
theorem dX12_lawful_28 : decode cX12_lawful 28 = .ok (.iconst 0, 1) := by decide +kernel
theorem dX12_lawful_29 : decode cX12_lawful 29 = .ok (.iconst 1, 1) := by decide +kernel
theorem dX12_lawful_30 : decode cX12_lawful 30 = .ok (.invokestatic 1, 3) := by decide +kernel
theorem dX12_lawful_33 : decode cX12_lawful 33 = .ok (.ifCond .ne 5, 3) := by decide +kernel
theorem dX12_lawful_36 : decode cX12_lawful 36 = .ok (.iconst (-1), 1) := by decide +kernel
theorem dX12_lawful_37 : decode cX12_lawful 37 = .ok (.ireturn, 1) := by decide +kernel
theorem dX12_lawful_38 : decode cX12_lawful 38 = .ok (.aload_n 0, 1) := by decide +kernel
theorem dX12_lawful_39 : decode cX12_lawful 39 = .ok (.iload_n 1, 1) := by decide +kernel
theorem dX12_lawful_40 : decode cX12_lawful 40 = .ok (.iload_n 2, 1) := by decide +kernel
theorem dX12_lawful_41 : decode cX12_lawful 41 = .ok (.iload_n 3, 1) := by decide +kernel
theorem dX12_lawful_42 : decode cX12_lawful 42 = .ok (.invokevirtual 464, 3) := by decide +kernel
theorem dX12_lawful_45 : decode cX12_lawful 45 = .ok (.istore 5, 2) := by decide +kernel
theorem dX12_lawful_47 : decode cX12_lawful 47 = .ok (.iload 4, 2) := by decide +kernel
theorem dX12_lawful_49 : decode cX12_lawful 49 = .ok (.ifCond .ne 8, 3) := by decide +kernel
theorem dX12_lawful_52 : decode cX12_lawful 52 = .ok (.iload 5, 2) := by decide +kernel
theorem dX12_lawful_54 : decode cX12_lawful 54 = .ok (.goto 7, 3) := by decide +kernel
theorem dX12_lawful_57 : decode cX12_lawful 57 = .ok (.aload_n 0, 1) := by decide +kernel
theorem dX12_lawful_58 : decode cX12_lawful 58 = .ok (.getfield 461, 3) := by decide +kernel
theorem dX12_lawful_61 : decode cX12_lawful 61 = .ok (.ireturn, 1) := by decide +kernel
theorem dX12_lay_0 : decode cX12_lay 0 = .ok (.aload_n 0, 1) := by decide +kernel
theorem dX12_lay_1 : decode cX12_lay 1 = .ok (.getfield 30, 3) := by decide +kernel
theorem dX12_lay_4 : decode cX12_lay 4 = .ok (.sipush 18720, 3) := by decide +kernel
theorem dX12_lay_7 : decode cX12_lay 7 = .ok (.iconst 2, 1) := by decide +kernel
theorem dX12_lay_8 : decode cX12_lay 8 = .ok (.aload_n 0, 1) := by decide +kernel
theorem dX12_lay_9 : decode cX12_lay 9 = .ok (.getfield 33, 3) := by decide +kernel
theorem dX12_lay_12 : decode cX12_lay 12 = .ok (.bipush 13, 2) := by decide +kernel
theorem dX12_lay_14 : decode cX12_lay 14 = .ok (.iaload, 1) := by decide +kernel
theorem dX12_lay_15 : decode cX12_lay 15 = .ok (.imul, 1) := by decide +kernel
theorem dX12_lay_16 : decode cX12_lay 16 = .ok (.iadd, 1) := by decide +kernel
theorem dX12_lay_17 : decode cX12_lay 17 = .ok (.iload_n 1, 1) := by decide +kernel
theorem dX12_lay_18 : decode cX12_lay 18 = .ok (.iastore, 1) := by decide +kernel
theorem dX12_lay_19 : decode cX12_lay 19 = .ok (.aload_n 0, 1) := by decide +kernel
theorem dX12_lay_20 : decode cX12_lay 20 = .ok (.getfield 30, 3) := by decide +kernel
theorem dX12_lay_23 : decode cX12_lay 23 = .ok (.sipush 18720, 3) := by decide +kernel
theorem dX12_lay_26 : decode cX12_lay 26 = .ok (.iconst 2, 1) := by decide +kernel
theorem dX12_lay_27 : decode cX12_lay 27 = .ok (.aload_n 0, 1) := by decide +kernel
theorem dX12_lay_28 : decode cX12_lay 28 = .ok (.getfield 33, 3) := by decide +kernel
theorem dX12_lay_31 : decode cX12_lay 31 = .ok (.bipush 13, 2) := by decide +kernel
theorem dX12_lay_33 : decode cX12_lay 33 = .ok (.iaload, 1) := by decide +kernel
theorem dX12_lay_34 : decode cX12_lay 34 = .ok (.imul, 1) := by decide +kernel
theorem dX12_lay_35 : decode cX12_lay 35 = .ok (.iadd, 1) := by decide +kernel
theorem dX12_lay_36 : decode cX12_lay 36 = .ok (.iconst 1, 1) := by decide +kernel
theorem dX12_lay_37 : decode cX12_lay 37 = .ok (.iadd, 1) := by decide +kernel
theorem dX12_lay_38 : decode cX12_lay 38 = .ok (.iload_n 2, 1) := by decide +kernel
theorem dX12_lay_39 : decode cX12_lay 39 = .ok (.iastore, 1) := by decide +kernel
theorem dX12_lay_40 : decode cX12_lay 40 = .ok (.aload_n 0, 1) := by decide +kernel
theorem dX12_lay_41 : decode cX12_lay 41 = .ok (.getfield 33, 3) := by decide +kernel
theorem dX12_lay_44 : decode cX12_lay 44 = .ok (.bipush 13, 2) := by decide +kernel
theorem dX12_lay_46 : decode cX12_lay 46 = .ok (.dup2, 1) := by decide +kernel
theorem dX12_lay_47 : decode cX12_lay 47 = .ok (.iaload, 1) := by decide +kernel
theorem dX12_lay_48 : decode cX12_lay 48 = .ok (.iconst 1, 1) := by decide +kernel
theorem dX12_lay_49 : decode cX12_lay 49 = .ok (.iadd, 1) := by decide +kernel
theorem dX12_lay_50 : decode cX12_lay 50 = .ok (.iastore, 1) := by decide +kernel
theorem dX12_lay_51 : decode cX12_lay 51 = .ok (.return_, 1) := by decide +kernel
theorem dX12_makes_0 : decode cX12_makes 0 = .ok (.iload_n 1, 1) := by decide +kernel
theorem dX12_makes_1 : decode cX12_makes 1 = .ok (.bipush 6, 2) := by decide +kernel
theorem dX12_makes_3 : decode cX12_makes 3 = .ok (.idiv, 1) := by decide +kernel
theorem dX12_makes_4 : decode cX12_makes 4 = .ok (.istore_n 2, 1) := by decide +kernel
theorem dX12_makes_5 : decode cX12_makes 5 = .ok (.iconst 0, 1) := by decide +kernel
theorem dX12_makes_6 : decode cX12_makes 6 = .ok (.istore_n 3, 1) := by decide +kernel
theorem dX12_makes_7 : decode cX12_makes 7 = .ok (.iload_n 3, 1) := by decide +kernel
theorem dX12_makes_8 : decode cX12_makes 8 = .ok (.iconst 3, 1) := by decide +kernel
theorem dX12_makes_9 : decode cX12_makes 9 = .ok (.if_icmp .ge 21, 3) := by decide +kernel
theorem dX12_makes_12 : decode cX12_makes 12 = .ok (.aload_n 0, 1) := by decide +kernel
theorem dX12_makes_13 : decode cX12_makes 13 = .ok (.getfield 91, 3) := by decide +kernel
theorem dX12_makes_16 : decode cX12_makes 16 = .ok (.iload_n 3, 1) := by decide +kernel
theorem dX12_makes_17 : decode cX12_makes 17 = .ok (.aload_n 0, 1) := by decide +kernel
theorem dX12_makes_18 : decode cX12_makes 18 = .ok (.getfield 13, 3) := by decide +kernel
theorem dX12_makes_21 : decode cX12_makes 21 = .ok (.iload_n 3, 1) := by decide +kernel
theorem dX12_makes_22 : decode cX12_makes 22 = .ok (.iaload, 1) := by decide +kernel
theorem dX12_makes_23 : decode cX12_makes 23 = .ok (.iastore, 1) := by decide +kernel
theorem dX12_makes_24 : decode cX12_makes 24 = .ok (.iinc 3 1, 3) := by decide +kernel
theorem dX12_makes_27 : decode cX12_makes 27 = .ok (.goto (-20), 3) := by decide +kernel
theorem dX12_makes_30 : decode cX12_makes 30 = .ok (.iconst 0, 1) := by decide +kernel
theorem dX12_makes_31 : decode cX12_makes 31 = .ok (.istore_n 3, 1) := by decide +kernel
theorem dX12_makes_32 : decode cX12_makes 32 = .ok (.iload_n 3, 1) := by decide +kernel
theorem dX12_makes_33 : decode cX12_makes 33 = .ok (.bipush 9, 2) := by decide +kernel
theorem dX12_makes_35 : decode cX12_makes 35 = .ok (.if_icmp .ge 21, 3) := by decide +kernel
theorem dX12_makes_38 : decode cX12_makes 38 = .ok (.aload_n 0, 1) := by decide +kernel
theorem dX12_makes_39 : decode cX12_makes 39 = .ok (.getfield 94, 3) := by decide +kernel
theorem dX12_makes_42 : decode cX12_makes 42 = .ok (.iload_n 3, 1) := by decide +kernel
theorem dX12_makes_43 : decode cX12_makes 43 = .ok (.aload_n 0, 1) := by decide +kernel
theorem dX12_makes_44 : decode cX12_makes 44 = .ok (.getfield 17, 3) := by decide +kernel
theorem dX12_makes_47 : decode cX12_makes 47 = .ok (.iload_n 3, 1) := by decide +kernel
theorem dX12_makes_48 : decode cX12_makes 48 = .ok (.iaload, 1) := by decide +kernel
theorem dX12_makes_49 : decode cX12_makes 49 = .ok (.iastore, 1) := by decide +kernel
theorem dX12_makes_50 : decode cX12_makes 50 = .ok (.iinc 3 1, 3) := by decide +kernel
theorem dX12_makes_53 : decode cX12_makes 53 = .ok (.goto (-21), 3) := by decide +kernel
theorem dX12_makes_56 : decode cX12_makes 56 = .ok (.aload_n 0, 1) := by decide +kernel
theorem dX12_makes_57 : decode cX12_makes 57 = .ok (.getfield 157, 3) := by decide +kernel
theorem dX12_makes_60 : decode cX12_makes 60 = .ok (.istore_n 3, 1) := by decide +kernel
theorem dX12_makes_61 : decode cX12_makes 61 = .ok (.iconst 0, 1) := by decide +kernel
theorem dX12_makes_62 : decode cX12_makes 62 = .ok (.istore 4, 2) := by decide +kernel
theorem dX12_makes_64 : decode cX12_makes 64 = .ok (.iload 4, 2) := by decide +kernel
theorem dX12_makes_66 : decode cX12_makes 66 = .ok (.aload_n 0, 1) := by decide +kernel
theorem dX12_makes_67 : decode cX12_makes 67 = .ok (.getfield 42, 3) := by decide +kernel
theorem dX12_makes_70 : decode cX12_makes 70 = .ok (.iload_n 1, 1) := by decide +kernel
theorem dX12_makes_71 : decode cX12_makes 71 = .ok (.iaload, 1) := by decide +kernel
theorem dX12_makes_72 : decode cX12_makes 72 = .ok (.if_icmp .ge 166, 3) := by decide +kernel
theorem dX12_makes_75 : decode cX12_makes 75 = .ok (.bipush 6, 2) := by decide +kernel
theorem dX12_makes_77 : decode cX12_makes 77 = .ok (.iload_n 1, 1) := by decide +kernel
theorem dX12_makes_78 : decode cX12_makes 78 = .ok (.imul, 1) := by decide +kernel
theorem dX12_makes_79 : decode cX12_makes 79 = .ok (.iload 4, 2) := by decide +kernel
theorem dX12_makes_81 : decode cX12_makes 81 = .ok (.iadd, 1) := by decide +kernel
theorem dX12_makes_82 : decode cX12_makes 82 = .ok (.istore 5, 2) := by decide +kernel
theorem dX12_makes_84 : decode cX12_makes 84 = .ok (.aload_n 0, 1) := by decide +kernel
theorem dX12_makes_85 : decode cX12_makes 85 = .ok (.getfield 51, 3) := by decide +kernel
theorem dX12_makes_88 : decode cX12_makes 88 = .ok (.iload 5, 2) := by decide +kernel
theorem dX12_makes_90 : decode cX12_makes 90 = .ok (.iaload, 1) := by decide +kernel
theorem dX12_makes_91 : decode cX12_makes 91 = .ok (.bipush 100, 2) := by decide +kernel
theorem dX12_makes_93 : decode cX12_makes 93 = .ok (.irem, 1) := by decide +kernel
theorem dX12_makes_94 : decode cX12_makes 94 = .ok (.istore 6, 2) := by decide +kernel
theorem dX12_makes_96 : decode cX12_makes 96 = .ok (.aload_n 0, 1) := by decide +kernel
theorem dX12_makes_97 : decode cX12_makes 97 = .ok (.getfield 63, 3) := by decide +kernel
theorem dX12_makes_100 : decode cX12_makes 100 = .ok (.iload 5, 2) := by decide +kernel
theorem dX12_makes_102 : decode cX12_makes 102 = .ok (.iaload, 1) := by decide +kernel
theorem dX12_makes_103 : decode cX12_makes 103 = .ok (.aload_n 0, 1) := by decide +kernel
theorem dX12_makes_104 : decode cX12_makes 104 = .ok (.getfield 60, 3) := by decide +kernel
theorem dX12_makes_107 : decode cX12_makes 107 = .ok (.iload 5, 2) := by decide +kernel
theorem dX12_makes_109 : decode cX12_makes 109 = .ok (.iaload, 1) := by decide +kernel
theorem dX12_makes_110 : decode cX12_makes 110 = .ok (.if_icmp .ne 6, 3) := by decide +kernel
theorem dX12_makes_113 : decode cX12_makes 113 = .ok (.goto 119, 3) := by decide +kernel
theorem dX12_makes_116 : decode cX12_makes 116 = .ok (.aload_n 0, 1) := by decide +kernel
theorem dX12_makes_117 : decode cX12_makes 117 = .ok (.iload_n 2, 1) := by decide +kernel
theorem dX12_makes_118 : decode cX12_makes 118 = .ok (.aload_n 0, 1) := by decide +kernel
theorem dX12_makes_119 : decode cX12_makes 119 = .ok (.getfield 60, 3) := by decide +kernel
theorem dX12_makes_122 : decode cX12_makes 122 = .ok (.iload 5, 2) := by decide +kernel
theorem dX12_makes_124 : decode cX12_makes 124 = .ok (.iaload, 1) := by decide +kernel
theorem dX12_makes_125 : decode cX12_makes 125 = .ok (.aload_n 0, 1) := by decide +kernel
theorem dX12_makes_126 : decode cX12_makes 126 = .ok (.getfield 63, 3) := by decide +kernel
theorem dX12_makes_129 : decode cX12_makes 129 = .ok (.iload 5, 2) := by decide +kernel
theorem dX12_makes_131 : decode cX12_makes 131 = .ok (.iaload, 1) := by decide +kernel
theorem dX12_makes_132 : decode cX12_makes 132 = .ok (.invokevirtual 380, 3) := by decide +kernel
theorem dX12_makes_135 : decode cX12_makes 135 = .ok (.istore 7, 2) := by decide +kernel
theorem dX12_makes_137 : decode cX12_makes 137 = .ok (.aload_n 0, 1) := by decide +kernel
theorem dX12_makes_138 : decode cX12_makes 138 = .ok (.getfield 51, 3) := by decide +kernel
theorem dX12_makes_141 : decode cX12_makes 141 = .ok (.iload 5, 2) := by decide +kernel
theorem dX12_makes_143 : decode cX12_makes 143 = .ok (.iaload, 1) := by decide +kernel
theorem dX12_makes_144 : decode cX12_makes 144 = .ok (.bipush 99, 2) := by decide +kernel
theorem dX12_makes_146 : decode cX12_makes 146 = .ok (.if_icmp .le 8, 3) := by decide +kernel
theorem dX12_makes_149 : decode cX12_makes 149 = .ok (.iload 7, 2) := by decide +kernel
theorem dX12_makes_151 : decode cX12_makes 151 = .ok (.ineg, 1) := by decide +kernel
theorem dX12_makes_152 : decode cX12_makes 152 = .ok (.istore 7, 2) := by decide +kernel
theorem dX12_makes_154 : decode cX12_makes 154 = .ok (.iload 6, 2) := by decide +kernel
theorem dX12_makes_156 : decode cX12_makes 156 = .ok (.ifCond .ne 27, 3) := by decide +kernel
theorem dX12_makes_159 : decode cX12_makes 159 = .ok (.aload_n 0, 1) := by decide +kernel
theorem dX12_makes_160 : decode cX12_makes 160 = .ok (.getfield 91, 3) := by decide +kernel
theorem dX12_makes_163 : decode cX12_makes 163 = .ok (.aload_n 0, 1) := by decide +kernel
theorem dX12_makes_164 : decode cX12_makes 164 = .ok (.aload_n 0, 1) := by decide +kernel
theorem dX12_makes_165 : decode cX12_makes 165 = .ok (.getfield 54, 3) := by decide +kernel
theorem dX12_makes_168 : decode cX12_makes 168 = .ok (.iload 5, 2) := by decide +kernel
theorem dX12_makes_170 : decode cX12_makes 170 = .ok (.iaload, 1) := by decide +kernel
theorem dX12_makes_171 : decode cX12_makes 171 = .ok (.invokevirtual 383, 3) := by decide +kernel
theorem dX12_makes_174 : decode cX12_makes 174 = .ok (.dup2, 1) := by decide +kernel
theorem dX12_makes_175 : decode cX12_makes 175 = .ok (.iaload, 1) := by decide +kernel
theorem dX12_makes_176 : decode cX12_makes 176 = .ok (.iload 7, 2) := by decide +kernel
theorem dX12_makes_178 : decode cX12_makes 178 = .ok (.iadd, 1) := by decide +kernel
theorem dX12_makes_179 : decode cX12_makes 179 = .ok (.iastore, 1) := by decide +kernel
theorem dX12_makes_180 : decode cX12_makes 180 = .ok (.goto 52, 3) := by decide +kernel
theorem dX12_makes_183 : decode cX12_makes 183 = .ok (.iload 6, 2) := by decide +kernel
theorem dX12_makes_185 : decode cX12_makes 185 = .ok (.iconst 1, 1) := by decide +kernel
theorem dX12_makes_186 : decode cX12_makes 186 = .ok (.if_icmp .ne 41, 3) := by decide +kernel
theorem dX12_makes_189 : decode cX12_makes 189 = .ok (.aload_n 0, 1) := by decide +kernel
theorem dX12_makes_190 : decode cX12_makes 190 = .ok (.getfield 94, 3) := by decide +kernel
theorem dX12_makes_193 : decode cX12_makes 193 = .ok (.iconst 3, 1) := by decide +kernel
theorem dX12_makes_194 : decode cX12_makes 194 = .ok (.aload_n 0, 1) := by decide +kernel
theorem dX12_makes_195 : decode cX12_makes 195 = .ok (.aload_n 0, 1) := by decide +kernel
theorem dX12_makes_196 : decode cX12_makes 196 = .ok (.getfield 54, 3) := by decide +kernel
theorem dX12_makes_199 : decode cX12_makes 199 = .ok (.iload 5, 2) := by decide +kernel
theorem dX12_makes_201 : decode cX12_makes 201 = .ok (.iaload, 1) := by decide +kernel
theorem dX12_makes_202 : decode cX12_makes 202 = .ok (.invokevirtual 383, 3) := by decide +kernel
theorem dX12_makes_205 : decode cX12_makes 205 = .ok (.imul, 1) := by decide +kernel
theorem dX12_makes_206 : decode cX12_makes 206 = .ok (.aload_n 0, 1) := by decide +kernel
theorem dX12_makes_207 : decode cX12_makes 207 = .ok (.aload_n 0, 1) := by decide +kernel
theorem dX12_makes_208 : decode cX12_makes 208 = .ok (.getfield 57, 3) := by decide +kernel
theorem dX12_makes_211 : decode cX12_makes 211 = .ok (.iload 5, 2) := by decide +kernel
theorem dX12_makes_213 : decode cX12_makes 213 = .ok (.iaload, 1) := by decide +kernel
theorem dX12_makes_214 : decode cX12_makes 214 = .ok (.invokevirtual 383, 3) := by decide +kernel
theorem dX12_makes_217 : decode cX12_makes 217 = .ok (.iadd, 1) := by decide +kernel
theorem dX12_makes_218 : decode cX12_makes 218 = .ok (.dup2, 1) := by decide +kernel
theorem dX12_makes_219 : decode cX12_makes 219 = .ok (.iaload, 1) := by decide +kernel
theorem dX12_makes_220 : decode cX12_makes 220 = .ok (.iload 7, 2) := by decide +kernel
theorem dX12_makes_222 : decode cX12_makes 222 = .ok (.iadd, 1) := by decide +kernel
theorem dX12_makes_223 : decode cX12_makes 223 = .ok (.iastore, 1) := by decide +kernel
theorem dX12_makes_224 : decode cX12_makes 224 = .ok (.goto 8, 3) := by decide +kernel
theorem dX12_makes_227 : decode cX12_makes 227 = .ok (.iload_n 3, 1) := by decide +kernel
theorem dX12_makes_228 : decode cX12_makes 228 = .ok (.iload 7, 2) := by decide +kernel
theorem dX12_makes_230 : decode cX12_makes 230 = .ok (.iadd, 1) := by decide +kernel
theorem dX12_makes_231 : decode cX12_makes 231 = .ok (.istore_n 3, 1) := by decide +kernel
theorem dX12_makes_232 : decode cX12_makes 232 = .ok (.iinc 4 1, 3) := by decide +kernel
theorem dX12_makes_235 : decode cX12_makes 235 = .ok (.goto (-171), 3) := by decide +kernel
theorem dX12_makes_238 : decode cX12_makes 238 = .ok (.iload_n 3, 1) := by decide +kernel
theorem dX12_makes_239 : decode cX12_makes 239 = .ok (.iconst 0, 1) := by decide +kernel
theorem dX12_makes_240 : decode cX12_makes 240 = .ok (.bipush 15, 2) := by decide +kernel
theorem dX12_makes_242 : decode cX12_makes 242 = .ok (.invokestatic 1, 3) := by decide +kernel
theorem dX12_makes_245 : decode cX12_makes 245 = .ok (.istore 4, 2) := by decide +kernel
theorem dX12_makes_247 : decode cX12_makes 247 = .ok (.iconst 0, 1) := by decide +kernel
theorem dX12_makes_248 : decode cX12_makes 248 = .ok (.istore 5, 2) := by decide +kernel
theorem dX12_makes_250 : decode cX12_makes 250 = .ok (.iload 5, 2) := by decide +kernel
theorem dX12_makes_252 : decode cX12_makes 252 = .ok (.iconst 3, 1) := by decide +kernel
theorem dX12_makes_253 : decode cX12_makes 253 = .ok (.if_icmp .ge 37, 3) := by decide +kernel
theorem dX12_makes_256 : decode cX12_makes 256 = .ok (.iload 4, 2) := by decide +kernel
theorem dX12_makes_258 : decode cX12_makes 258 = .ok (.ifCond .eq 23, 3) := by decide +kernel
theorem dX12_makes_261 : decode cX12_makes 261 = .ok (.aload_n 0, 1) := by decide +kernel
theorem dX12_makes_262 : decode cX12_makes 262 = .ok (.getfield 91, 3) := by decide +kernel
theorem dX12_makes_265 : decode cX12_makes 265 = .ok (.iload 5, 2) := by decide +kernel
theorem dX12_makes_267 : decode cX12_makes 267 = .ok (.iaload, 1) := by decide +kernel
theorem dX12_makes_268 : decode cX12_makes 268 = .ok (.iconst 0, 1) := by decide +kernel
theorem dX12_makes_269 : decode cX12_makes 269 = .ok (.bipush 15, 2) := by decide +kernel
theorem dX12_makes_271 : decode cX12_makes 271 = .ok (.invokestatic 1, 3) := by decide +kernel
theorem dX12_makes_274 : decode cX12_makes 274 = .ok (.ifCond .eq 7, 3) := by decide +kernel
theorem dX12_makes_277 : decode cX12_makes 277 = .ok (.iconst 1, 1) := by decide +kernel
theorem dX12_makes_278 : decode cX12_makes 278 = .ok (.goto 4, 3) := by decide +kernel
theorem dX12_makes_281 : decode cX12_makes 281 = .ok (.iconst 0, 1) := by decide +kernel
theorem dX12_makes_282 : decode cX12_makes 282 = .ok (.istore 4, 2) := by decide +kernel
theorem dX12_makes_284 : decode cX12_makes 284 = .ok (.iinc 5 1, 3) := by decide +kernel
theorem dX12_makes_287 : decode cX12_makes 287 = .ok (.goto (-37), 3) := by decide +kernel
theorem dX12_makes_290 : decode cX12_makes 290 = .ok (.iconst 0, 1) := by decide +kernel
theorem dX12_makes_291 : decode cX12_makes 291 = .ok (.istore 5, 2) := by decide +kernel
theorem dX12_makes_293 : decode cX12_makes 293 = .ok (.iload 5, 2) := by decide +kernel
theorem dX12_makes_295 : decode cX12_makes 295 = .ok (.bipush 9, 2) := by decide +kernel
theorem dX12_makes_297 : decode cX12_makes 297 = .ok (.if_icmp .ge 37, 3) := by decide +kernel
theorem dX12_makes_300 : decode cX12_makes 300 = .ok (.iload 4, 2) := by decide +kernel
theorem dX12_makes_302 : decode cX12_makes 302 = .ok (.ifCond .eq 23, 3) := by decide +kernel
theorem dX12_makes_305 : decode cX12_makes 305 = .ok (.aload_n 0, 1) := by decide +kernel
theorem dX12_makes_306 : decode cX12_makes 306 = .ok (.getfield 94, 3) := by decide +kernel
theorem dX12_makes_309 : decode cX12_makes 309 = .ok (.iload 5, 2) := by decide +kernel
theorem dX12_makes_311 : decode cX12_makes 311 = .ok (.iaload, 1) := by decide +kernel
theorem dX12_makes_312 : decode cX12_makes 312 = .ok (.iconst 0, 1) := by decide +kernel
theorem dX12_makes_313 : decode cX12_makes 313 = .ok (.bipush 7, 2) := by decide +kernel
theorem dX12_makes_315 : decode cX12_makes 315 = .ok (.invokestatic 1, 3) := by decide +kernel
theorem dX12_makes_318 : decode cX12_makes 318 = .ok (.ifCond .eq 7, 3) := by decide +kernel
theorem dX12_makes_321 : decode cX12_makes 321 = .ok (.iconst 1, 1) := by decide +kernel
theorem dX12_makes_322 : decode cX12_makes 322 = .ok (.goto 4, 3) := by decide +kernel
theorem dX12_makes_325 : decode cX12_makes 325 = .ok (.iconst 0, 1) := by decide +kernel
theorem dX12_makes_326 : decode cX12_makes 326 = .ok (.istore 4, 2) := by decide +kernel
theorem dX12_makes_328 : decode cX12_makes 328 = .ok (.iinc 5 1, 3) := by decide +kernel
theorem dX12_makes_331 : decode cX12_makes 331 = .ok (.goto (-38), 3) := by decide +kernel
theorem dX12_makes_334 : decode cX12_makes 334 = .ok (.iload 4, 2) := by decide +kernel
theorem dX12_makes_336 : decode cX12_makes 336 = .ok (.ifCond .ne 5, 3) := by decide +kernel
theorem dX12_makes_339 : decode cX12_makes 339 = .ok (.iconst 0, 1) := by decide +kernel
theorem dX12_makes_340 : decode cX12_makes 340 = .ok (.ireturn, 1) := by decide +kernel
theorem dX12_makes_341 : decode cX12_makes 341 = .ok (.aload_n 0, 1) := by decide +kernel
theorem dX12_makes_342 : decode cX12_makes 342 = .ok (.iload_n 3, 1) := by decide +kernel
theorem dX12_makes_343 : decode cX12_makes 343 = .ok (.putfield 157, 3) := by decide +kernel
theorem dX12_makes_346 : decode cX12_makes 346 = .ok (.iconst 0, 1) := by decide +kernel
theorem dX12_makes_347 : decode cX12_makes 347 = .ok (.istore 5, 2) := by decide +kernel
theorem dX12_makes_349 : decode cX12_makes 349 = .ok (.iload 5, 2) := by decide +kernel
theorem dX12_makes_351 : decode cX12_makes 351 = .ok (.iconst 3, 1) := by decide +kernel
theorem dX12_makes_352 : decode cX12_makes 352 = .ok (.if_icmp .ge 23, 3) := by decide +kernel
theorem dX12_makes_355 : decode cX12_makes 355 = .ok (.aload_n 0, 1) := by decide +kernel
theorem dX12_makes_356 : decode cX12_makes 356 = .ok (.getfield 13, 3) := by decide +kernel
theorem dX12_makes_359 : decode cX12_makes 359 = .ok (.iload 5, 2) := by decide +kernel
theorem dX12_makes_361 : decode cX12_makes 361 = .ok (.aload_n 0, 1) := by decide +kernel
theorem dX12_makes_362 : decode cX12_makes 362 = .ok (.getfield 91, 3) := by decide +kernel
theorem dX12_makes_365 : decode cX12_makes 365 = .ok (.iload 5, 2) := by decide +kernel
theorem dX12_makes_367 : decode cX12_makes 367 = .ok (.iaload, 1) := by decide +kernel
theorem dX12_makes_368 : decode cX12_makes 368 = .ok (.iastore, 1) := by decide +kernel
theorem dX12_makes_369 : decode cX12_makes 369 = .ok (.iinc 5 1, 3) := by decide +kernel
theorem dX12_makes_372 : decode cX12_makes 372 = .ok (.goto (-23), 3) := by decide +kernel
theorem dX12_makes_375 : decode cX12_makes 375 = .ok (.iconst 0, 1) := by decide +kernel
theorem dX12_makes_376 : decode cX12_makes 376 = .ok (.istore 5, 2) := by decide +kernel
theorem dX12_makes_378 : decode cX12_makes 378 = .ok (.iload 5, 2) := by decide +kernel
theorem dX12_makes_380 : decode cX12_makes 380 = .ok (.bipush 9, 2) := by decide +kernel
theorem dX12_makes_382 : decode cX12_makes 382 = .ok (.if_icmp .ge 23, 3) := by decide +kernel
theorem dX12_makes_385 : decode cX12_makes 385 = .ok (.aload_n 0, 1) := by decide +kernel
theorem dX12_makes_386 : decode cX12_makes 386 = .ok (.getfield 17, 3) := by decide +kernel
theorem dX12_makes_389 : decode cX12_makes 389 = .ok (.iload 5, 2) := by decide +kernel
theorem dX12_makes_391 : decode cX12_makes 391 = .ok (.aload_n 0, 1) := by decide +kernel
theorem dX12_makes_392 : decode cX12_makes 392 = .ok (.getfield 94, 3) := by decide +kernel
theorem dX12_makes_395 : decode cX12_makes 395 = .ok (.iload 5, 2) := by decide +kernel
theorem dX12_makes_397 : decode cX12_makes 397 = .ok (.iaload, 1) := by decide +kernel
theorem dX12_makes_398 : decode cX12_makes 398 = .ok (.iastore, 1) := by decide +kernel
theorem dX12_makes_399 : decode cX12_makes 399 = .ok (.iinc 5 1, 3) := by decide +kernel
theorem dX12_makes_402 : decode cX12_makes 402 = .ok (.goto (-24), 3) := by decide +kernel
theorem dX12_makes_405 : decode cX12_makes 405 = .ok (.iconst 0, 1) := by decide +kernel
theorem dX12_makes_406 : decode cX12_makes 406 = .ok (.istore 5, 2) := by decide +kernel
theorem dX12_makes_408 : decode cX12_makes 408 = .ok (.iload 5, 2) := by decide +kernel
theorem dX12_makes_410 : decode cX12_makes 410 = .ok (.aload_n 0, 1) := by decide +kernel
theorem dX12_makes_411 : decode cX12_makes 411 = .ok (.getfield 42, 3) := by decide +kernel
theorem dX12_makes_414 : decode cX12_makes 414 = .ok (.iload_n 1, 1) := by decide +kernel
theorem dX12_makes_415 : decode cX12_makes 415 = .ok (.iaload, 1) := by decide +kernel
theorem dX12_makes_416 : decode cX12_makes 416 = .ok (.if_icmp .ge 20, 3) := by decide +kernel
theorem dX12_makes_419 : decode cX12_makes 419 = .ok (.aload_n 0, 1) := by decide +kernel
theorem dX12_makes_420 : decode cX12_makes 420 = .ok (.bipush 6, 2) := by decide +kernel
theorem dX12_makes_422 : decode cX12_makes 422 = .ok (.iload_n 1, 1) := by decide +kernel
theorem dX12_makes_423 : decode cX12_makes 423 = .ok (.imul, 1) := by decide +kernel
theorem dX12_makes_424 : decode cX12_makes 424 = .ok (.iload 5, 2) := by decide +kernel
theorem dX12_makes_426 : decode cX12_makes 426 = .ok (.iadd, 1) := by decide +kernel
theorem dX12_makes_427 : decode cX12_makes 427 = .ok (.invokevirtual 386, 3) := by decide +kernel
theorem dX12_makes_430 : decode cX12_makes 430 = .ok (.iinc 5 1, 3) := by decide +kernel
theorem dX12_makes_433 : decode cX12_makes 433 = .ok (.goto (-25), 3) := by decide +kernel
theorem dX12_makes_436 : decode cX12_makes 436 = .ok (.iconst 1, 1) := by decide +kernel
theorem dX12_makes_437 : decode cX12_makes 437 = .ok (.ireturn, 1) := by decide +kernel
theorem dX12_meets_0 : decode cX12_meets 0 = .ok (.aload_n 0, 1) := by decide +kernel
theorem dX12_meets_1 : decode cX12_meets 1 = .ok (.lload_n 1, 1) := by decide +kernel
theorem dX12_meets_2 : decode cX12_meets 2 = .ok (.invokevirtual 401, 3) := by decide +kernel
theorem dX12_meets_5 : decode cX12_meets 5 = .ok (.istore 5, 2) := by decide +kernel
theorem dX12_meets_7 : decode cX12_meets 7 = .ok (.aload_n 0, 1) := by decide +kernel
theorem dX12_meets_8 : decode cX12_meets 8 = .ok (.getfield 110, 3) := by decide +kernel
theorem dX12_meets_11 : decode cX12_meets 11 = .ok (.iload 5, 2) := by decide +kernel
theorem dX12_meets_13 : decode cX12_meets 13 = .ok (.aload_n 0, 1) := by decide +kernel
theorem dX12_meets_14 : decode cX12_meets 14 = .ok (.getfield 405, 3) := by decide +kernel
theorem dX12_meets_17 : decode cX12_meets 17 = .ok (.iastore, 1) := by decide +kernel
theorem dX12_meets_18 : decode cX12_meets 18 = .ok (.aload_n 0, 1) := by decide +kernel
theorem dX12_meets_19 : decode cX12_meets 19 = .ok (.getfield 113, 3) := by decide +kernel
theorem dX12_meets_22 : decode cX12_meets 22 = .ok (.aload_n 0, 1) := by decide +kernel
theorem dX12_meets_23 : decode cX12_meets 23 = .ok (.getfield 405, 3) := by decide +kernel
theorem dX12_meets_26 : decode cX12_meets 26 = .ok (.iload 5, 2) := by decide +kernel
theorem dX12_meets_28 : decode cX12_meets 28 = .ok (.iastore, 1) := by decide +kernel
theorem dX12_meets_29 : decode cX12_meets 29 = .ok (.aload_n 0, 1) := by decide +kernel
theorem dX12_meets_30 : decode cX12_meets 30 = .ok (.getfield 97, 3) := by decide +kernel
theorem dX12_meets_33 : decode cX12_meets 33 = .ok (.aload_n 0, 1) := by decide +kernel
theorem dX12_meets_34 : decode cX12_meets 34 = .ok (.getfield 405, 3) := by decide +kernel
theorem dX12_meets_37 : decode cX12_meets 37 = .ok (.lload_n 1, 1) := by decide +kernel
theorem dX12_meets_38 : decode cX12_meets 38 = .ok (.lastore, 1) := by decide +kernel
theorem dX12_meets_39 : decode cX12_meets 39 = .ok (.aload_n 0, 1) := by decide +kernel
theorem dX12_meets_40 : decode cX12_meets 40 = .ok (.getfield 101, 3) := by decide +kernel
theorem dX12_meets_43 : decode cX12_meets 43 = .ok (.aload_n 0, 1) := by decide +kernel
theorem dX12_meets_44 : decode cX12_meets 44 = .ok (.getfield 405, 3) := by decide +kernel
theorem dX12_meets_47 : decode cX12_meets 47 = .ok (.iload_n 3, 1) := by decide +kernel
theorem dX12_meets_48 : decode cX12_meets 48 = .ok (.iastore, 1) := by decide +kernel
theorem dX12_meets_49 : decode cX12_meets 49 = .ok (.aload_n 0, 1) := by decide +kernel
theorem dX12_meets_50 : decode cX12_meets 50 = .ok (.getfield 104, 3) := by decide +kernel
theorem dX12_meets_53 : decode cX12_meets 53 = .ok (.aload_n 0, 1) := by decide +kernel
theorem dX12_meets_54 : decode cX12_meets 54 = .ok (.getfield 405, 3) := by decide +kernel
theorem dX12_meets_57 : decode cX12_meets 57 = .ok (.iload 4, 2) := by decide +kernel
theorem dX12_meets_59 : decode cX12_meets 59 = .ok (.iastore, 1) := by decide +kernel
theorem dX12_meets_60 : decode cX12_meets 60 = .ok (.aload_n 0, 1) := by decide +kernel
theorem dX12_meets_61 : decode cX12_meets 61 = .ok (.getfield 107, 3) := by decide +kernel
theorem dX12_meets_64 : decode cX12_meets 64 = .ok (.aload_n 0, 1) := by decide +kernel
theorem dX12_meets_65 : decode cX12_meets 65 = .ok (.getfield 405, 3) := by decide +kernel
theorem dX12_meets_68 : decode cX12_meets 68 = .ok (.iload_n 3, 1) := by decide +kernel
theorem dX12_meets_69 : decode cX12_meets 69 = .ok (.iconst (-1), 1) := by decide +kernel
theorem dX12_meets_70 : decode cX12_meets 70 = .ok (.if_icmp .ne 7, 3) := by decide +kernel
theorem dX12_meets_73 : decode cX12_meets 73 = .ok (.iconst 0, 1) := by decide +kernel
theorem dX12_meets_74 : decode cX12_meets 74 = .ok (.goto 11, 3) := by decide +kernel
theorem dX12_meets_77 : decode cX12_meets 77 = .ok (.aload_n 0, 1) := by decide +kernel
theorem dX12_meets_78 : decode cX12_meets 78 = .ok (.getfield 107, 3) := by decide +kernel
theorem dX12_meets_81 : decode cX12_meets 81 = .ok (.iload_n 3, 1) := by decide +kernel
theorem dX12_meets_82 : decode cX12_meets 82 = .ok (.iaload, 1) := by decide +kernel
theorem dX12_meets_83 : decode cX12_meets 83 = .ok (.iconst 1, 1) := by decide +kernel
theorem dX12_meets_84 : decode cX12_meets 84 = .ok (.iadd, 1) := by decide +kernel
theorem dX12_meets_85 : decode cX12_meets 85 = .ok (.iastore, 1) := by decide +kernel
theorem dX12_meets_86 : decode cX12_meets 86 = .ok (.aload_n 0, 1) := by decide +kernel
theorem dX12_meets_87 : decode cX12_meets 87 = .ok (.dup, 1) := by decide +kernel
theorem dX12_meets_88 : decode cX12_meets 88 = .ok (.getfield 405, 3) := by decide +kernel
theorem dX12_meets_91 : decode cX12_meets 91 = .ok (.iconst 1, 1) := by decide +kernel
theorem dX12_meets_92 : decode cX12_meets 92 = .ok (.iadd, 1) := by decide +kernel
theorem dX12_meets_93 : decode cX12_meets 93 = .ok (.putfield 405, 3) := by decide +kernel
theorem dX12_meets_96 : decode cX12_meets 96 = .ok (.return_, 1) := by decide +kernel
theorem dX12_met_0 : decode cX12_met 0 = .ok (.aload_n 0, 1) := by decide +kernel
theorem dX12_met_1 : decode cX12_met 1 = .ok (.iload_n 1, 1) := by decide +kernel
theorem dX12_met_2 : decode cX12_met 2 = .ok (.iload_n 2, 1) := by decide +kernel
theorem dX12_met_3 : decode cX12_met 3 = .ok (.invokevirtual 433, 3) := by decide +kernel
theorem dX12_met_6 : decode cX12_met 6 = .ok (.ifCond .ne 5, 3) := by decide +kernel
theorem dX12_met_9 : decode cX12_met 9 = .ok (.iconst (-1), 1) := by decide +kernel
theorem dX12_met_10 : decode cX12_met 10 = .ok (.ireturn, 1) := by decide +kernel
theorem dX12_met_11 : decode cX12_met 11 = .ok (.aload_n 0, 1) := by decide +kernel
theorem dX12_met_12 : decode cX12_met 12 = .ok (.iconst (-1), 1) := by decide +kernel
theorem dX12_met_13 : decode cX12_met 13 = .ok (.iload_n 1, 1) := by decide +kernel
theorem dX12_met_14 : decode cX12_met 14 = .ok (.iload_n 2, 1) := by decide +kernel
theorem dX12_met_15 : decode cX12_met 15 = .ok (.bipush 7, 2) := by decide +kernel
theorem dX12_met_17 : decode cX12_met 17 = .ok (.iconst 0, 1) := by decide +kernel
theorem dX12_met_18 : decode cX12_met 18 = .ok (.invokevirtual 436, 3) := by decide +kernel
theorem dX12_met_21 : decode cX12_met 21 = .ok (.aload_n 0, 1) := by decide +kernel
theorem dX12_met_22 : decode cX12_met 22 = .ok (.getfield 408, 3) := by decide +kernel
theorem dX12_met_25 : decode cX12_met 25 = .ok (.ifCond .eq 6, 3) := by decide +kernel
theorem dX12_met_28 : decode cX12_met 28 = .ok (.bipush (-2), 2) := by decide +kernel
theorem dX12_met_30 : decode cX12_met 30 = .ok (.ireturn, 1) := by decide +kernel
theorem dX12_met_31 : decode cX12_met 31 = .ok (.iload_n 3, 1) := by decide +kernel
theorem dX12_met_32 : decode cX12_met 32 = .ok (.ifCond .ne 8, 3) := by decide +kernel
theorem dX12_met_35 : decode cX12_met 35 = .ok (.aload_n 0, 1) := by decide +kernel
theorem dX12_met_36 : decode cX12_met 36 = .ok (.getfield 405, 3) := by decide +kernel
theorem dX12_met_39 : decode cX12_met 39 = .ok (.ireturn, 1) := by decide +kernel
theorem dX12_met_40 : decode cX12_met 40 = .ok (.iconst 0, 1) := by decide +kernel
theorem dX12_met_41 : decode cX12_met 41 = .ok (.istore 4, 2) := by decide +kernel
theorem dX12_met_43 : decode cX12_met 43 = .ok (.iconst 0, 1) := by decide +kernel
theorem dX12_met_44 : decode cX12_met 44 = .ok (.istore 5, 2) := by decide +kernel
theorem dX12_met_46 : decode cX12_met 46 = .ok (.iload 5, 2) := by decide +kernel
theorem dX12_met_48 : decode cX12_met 48 = .ok (.aload_n 0, 1) := by decide +kernel
theorem dX12_met_49 : decode cX12_met 49 = .ok (.getfield 405, 3) := by decide +kernel
theorem dX12_met_52 : decode cX12_met 52 = .ok (.if_icmp .ge 86, 3) := by decide +kernel
theorem dX12_met_55 : decode cX12_met 55 = .ok (.aload_n 0, 1) := by decide +kernel
theorem dX12_met_56 : decode cX12_met 56 = .ok (.aload_n 0, 1) := by decide +kernel
theorem dX12_met_57 : decode cX12_met 57 = .ok (.getfield 97, 3) := by decide +kernel
theorem dX12_met_60 : decode cX12_met 60 = .ok (.iload 5, 2) := by decide +kernel
theorem dX12_met_62 : decode cX12_met 62 = .ok (.laload, 1) := by decide +kernel
theorem dX12_met_63 : decode cX12_met 63 = .ok (.invokevirtual 448, 3) := by decide +kernel
theorem dX12_met_66 : decode cX12_met 66 = .ok (.lstore 6, 2) := by decide +kernel
theorem dX12_met_68 : decode cX12_met 68 = .ok (.iconst 1, 1) := by decide +kernel
theorem dX12_met_69 : decode cX12_met 69 = .ok (.istore 8, 2) := by decide +kernel
theorem dX12_met_71 : decode cX12_met 71 = .ok (.iconst 0, 1) := by decide +kernel
theorem dX12_met_72 : decode cX12_met 72 = .ok (.istore 9, 2) := by decide +kernel
theorem dX12_met_74 : decode cX12_met 74 = .ok (.iload 9, 2) := by decide +kernel
theorem dX12_met_76 : decode cX12_met 76 = .ok (.iload 4, 2) := by decide +kernel
theorem dX12_met_78 : decode cX12_met 78 = .ok (.if_icmp .ge 34, 3) := by decide +kernel
theorem dX12_met_81 : decode cX12_met 81 = .ok (.iload 8, 2) := by decide +kernel
theorem dX12_met_83 : decode cX12_met 83 = .ok (.ifCond .eq 29, 3) := by decide +kernel
theorem dX12_met_86 : decode cX12_met 86 = .ok (.aload_n 0, 1) := by decide +kernel
theorem dX12_met_87 : decode cX12_met 87 = .ok (.getfield 134, 3) := by decide +kernel
theorem dX12_met_90 : decode cX12_met 90 = .ok (.iload 9, 2) := by decide +kernel
theorem dX12_met_92 : decode cX12_met 92 = .ok (.laload, 1) := by decide +kernel
theorem dX12_met_93 : decode cX12_met 93 = .ok (.lload 6, 2) := by decide +kernel
theorem dX12_met_95 : decode cX12_met 95 = .ok (.lcmp, 1) := by decide +kernel
theorem dX12_met_96 : decode cX12_met 96 = .ok (.ifCond .eq 7, 3) := by decide +kernel
theorem dX12_met_99 : decode cX12_met 99 = .ok (.iconst 1, 1) := by decide +kernel
theorem dX12_met_100 : decode cX12_met 100 = .ok (.goto 4, 3) := by decide +kernel
theorem dX12_met_103 : decode cX12_met 103 = .ok (.iconst 0, 1) := by decide +kernel
theorem dX12_met_104 : decode cX12_met 104 = .ok (.istore 8, 2) := by decide +kernel
theorem dX12_met_106 : decode cX12_met 106 = .ok (.iinc 9 1, 3) := by decide +kernel
theorem dX12_met_109 : decode cX12_met 109 = .ok (.goto (-35), 3) := by decide +kernel
theorem dX12_met_112 : decode cX12_met 112 = .ok (.iload 8, 2) := by decide +kernel
theorem dX12_met_114 : decode cX12_met 114 = .ok (.ifCond .ne 6, 3) := by decide +kernel
theorem dX12_met_117 : decode cX12_met 117 = .ok (.goto 15, 3) := by decide +kernel
theorem dX12_met_120 : decode cX12_met 120 = .ok (.aload_n 0, 1) := by decide +kernel
theorem dX12_met_121 : decode cX12_met 121 = .ok (.getfield 134, 3) := by decide +kernel
theorem dX12_met_124 : decode cX12_met 124 = .ok (.iload 4, 2) := by decide +kernel
theorem dX12_met_126 : decode cX12_met 126 = .ok (.lload 6, 2) := by decide +kernel
theorem dX12_met_128 : decode cX12_met 128 = .ok (.lastore, 1) := by decide +kernel
theorem dX12_met_129 : decode cX12_met 129 = .ok (.iinc 4 1, 3) := by decide +kernel
theorem dX12_met_132 : decode cX12_met 132 = .ok (.iinc 5 1, 3) := by decide +kernel
theorem dX12_met_135 : decode cX12_met 135 = .ok (.goto (-89), 3) := by decide +kernel
theorem dX12_met_138 : decode cX12_met 138 = .ok (.iload 4, 2) := by decide +kernel
theorem dX12_met_140 : decode cX12_met 140 = .ok (.ireturn, 1) := by decide +kernel
theorem dX12_much_0 : decode cX12_much 0 = .ok (.aload_n 0, 1) := by decide +kernel
theorem dX12_much_1 : decode cX12_much 1 = .ok (.getfield 242, 3) := by decide +kernel
theorem dX12_much_4 : decode cX12_much 4 = .ok (.bipush 43, 2) := by decide +kernel
theorem dX12_much_6 : decode cX12_much 6 = .ok (.if_icmp .eq 18, 3) := by decide +kernel
theorem dX12_much_9 : decode cX12_much 9 = .ok (.aload_n 0, 1) := by decide +kernel
theorem dX12_much_10 : decode cX12_much 10 = .ok (.getfield 242, 3) := by decide +kernel
theorem dX12_much_13 : decode cX12_much 13 = .ok (.bipush 45, 2) := by decide +kernel
theorem dX12_much_15 : decode cX12_much 15 = .ok (.if_icmp .eq 9, 3) := by decide +kernel
theorem dX12_much_18 : decode cX12_much 18 = .ok (.aload_n 0, 1) := by decide +kernel
theorem dX12_much_19 : decode cX12_much 19 = .ok (.iconst 1, 1) := by decide +kernel
theorem dX12_much_20 : decode cX12_much 20 = .ok (.invokevirtual 263, 3) := by decide +kernel
theorem dX12_much_23 : decode cX12_much 23 = .ok (.ireturn, 1) := by decide +kernel
theorem dX12_much_24 : decode cX12_much 24 = .ok (.aload_n 0, 1) := by decide +kernel
theorem dX12_much_25 : decode cX12_much 25 = .ok (.getfield 242, 3) := by decide +kernel
theorem dX12_much_28 : decode cX12_much 28 = .ok (.bipush 45, 2) := by decide +kernel
theorem dX12_much_30 : decode cX12_much 30 = .ok (.if_icmp .ne 14, 3) := by decide +kernel
theorem dX12_much_33 : decode cX12_much 33 = .ok (.aload_n 0, 1) := by decide +kernel
theorem dX12_much_34 : decode cX12_much 34 = .ok (.getfield 51, 3) := by decide +kernel
theorem dX12_much_37 : decode cX12_much 37 = .ok (.iload_n 1, 1) := by decide +kernel
theorem dX12_much_38 : decode cX12_much 38 = .ok (.dup2, 1) := by decide +kernel
theorem dX12_much_39 : decode cX12_much 39 = .ok (.iaload, 1) := by decide +kernel
theorem dX12_much_40 : decode cX12_much 40 = .ok (.bipush 100, 2) := by decide +kernel
theorem dX12_much_42 : decode cX12_much 42 = .ok (.iadd, 1) := by decide +kernel
theorem dX12_much_43 : decode cX12_much 43 = .ok (.iastore, 1) := by decide +kernel
theorem dX12_much_44 : decode cX12_much 44 = .ok (.aload_n 0, 1) := by decide +kernel
theorem dX12_much_45 : decode cX12_much 45 = .ok (.invokevirtual 266, 3) := by decide +kernel
theorem dX12_much_48 : decode cX12_much 48 = .ok (.aload_n 0, 1) := by decide +kernel
theorem dX12_much_49 : decode cX12_much 49 = .ok (.getfield 60, 3) := by decide +kernel
theorem dX12_much_52 : decode cX12_much 52 = .ok (.iload_n 1, 1) := by decide +kernel
theorem dX12_much_53 : decode cX12_much 53 = .ok (.aload_n 0, 1) := by decide +kernel
theorem dX12_much_54 : decode cX12_much 54 = .ok (.getfield 33, 3) := by decide +kernel
theorem dX12_much_57 : decode cX12_much 57 = .ok (.bipush 13, 2) := by decide +kernel
theorem dX12_much_59 : decode cX12_much 59 = .ok (.iaload, 1) := by decide +kernel
theorem dX12_much_60 : decode cX12_much 60 = .ok (.iastore, 1) := by decide +kernel
theorem dX12_much_61 : decode cX12_much 61 = .ok (.aload_n 0, 1) := by decide +kernel
theorem dX12_much_62 : decode cX12_much 62 = .ok (.invokevirtual 315, 3) := by decide +kernel
theorem dX12_much_65 : decode cX12_much 65 = .ok (.ifCond .ne 5, 3) := by decide +kernel
theorem dX12_much_68 : decode cX12_much 68 = .ok (.iconst 0, 1) := by decide +kernel
theorem dX12_much_69 : decode cX12_much 69 = .ok (.ireturn, 1) := by decide +kernel
theorem dX12_much_70 : decode cX12_much 70 = .ok (.aload_n 0, 1) := by decide +kernel
theorem dX12_much_71 : decode cX12_much 71 = .ok (.getfield 63, 3) := by decide +kernel
theorem dX12_much_74 : decode cX12_much 74 = .ok (.iload_n 1, 1) := by decide +kernel
theorem dX12_much_75 : decode cX12_much 75 = .ok (.aload_n 0, 1) := by decide +kernel
theorem dX12_much_76 : decode cX12_much 76 = .ok (.getfield 33, 3) := by decide +kernel
theorem dX12_much_79 : decode cX12_much 79 = .ok (.bipush 13, 2) := by decide +kernel
theorem dX12_much_81 : decode cX12_much 81 = .ok (.iaload, 1) := by decide +kernel
theorem dX12_much_82 : decode cX12_much 82 = .ok (.iastore, 1) := by decide +kernel
theorem dX12_much_83 : decode cX12_much 83 = .ok (.iconst 1, 1) := by decide +kernel
theorem dX12_much_84 : decode cX12_much 84 = .ok (.ireturn, 1) := by decide +kernel
theorem dX12_need_0 : decode cX12_need 0 = .ok (.aload_n 0, 1) := by decide +kernel
theorem dX12_need_1 : decode cX12_need 1 = .ok (.getfield 242, 3) := by decide +kernel
theorem dX12_need_4 : decode cX12_need 4 = .ok (.iload_n 1, 1) := by decide +kernel
theorem dX12_need_5 : decode cX12_need 5 = .ok (.if_icmp .eq 9, 3) := by decide +kernel
theorem dX12_need_8 : decode cX12_need 8 = .ok (.aload_n 0, 1) := by decide +kernel
theorem dX12_need_9 : decode cX12_need 9 = .ok (.iconst 1, 1) := by decide +kernel
theorem dX12_need_10 : decode cX12_need 10 = .ok (.invokevirtual 263, 3) := by decide +kernel
theorem dX12_need_13 : decode cX12_need 13 = .ok (.ireturn, 1) := by decide +kernel
theorem dX12_need_14 : decode cX12_need 14 = .ok (.aload_n 0, 1) := by decide +kernel
theorem dX12_need_15 : decode cX12_need 15 = .ok (.invokevirtual 266, 3) := by decide +kernel
theorem dX12_need_18 : decode cX12_need 18 = .ok (.iconst 1, 1) := by decide +kernel
theorem dX12_need_19 : decode cX12_need 19 = .ok (.ireturn, 1) := by decide +kernel
theorem dX12_never_0 : decode cX12_never 0 = .ok (.aload_n 0, 1) := by decide +kernel
theorem dX12_never_1 : decode cX12_never 1 = .ok (.iconst 0, 1) := by decide +kernel
theorem dX12_never_2 : decode cX12_never 2 = .ok (.putfield 257, 3) := by decide +kernel
theorem dX12_never_5 : decode cX12_never 5 = .ok (.aload_n 0, 1) := by decide +kernel
theorem dX12_never_6 : decode cX12_never 6 = .ok (.getfield 352, 3) := by decide +kernel
theorem dX12_never_9 : decode cX12_never 9 = .ok (.bipush 6, 2) := by decide +kernel
theorem dX12_never_11 : decode cX12_never 11 = .ok (.if_icmp .ne 9, 3) := by decide +kernel
theorem dX12_never_14 : decode cX12_never 14 = .ok (.aload_n 0, 1) := by decide +kernel
theorem dX12_never_15 : decode cX12_never 15 = .ok (.invokevirtual 336, 3) := by decide +kernel
theorem dX12_never_18 : decode cX12_never 18 = .ok (.iconst (-1), 1) := by decide +kernel
theorem dX12_never_19 : decode cX12_never 19 = .ok (.ireturn, 1) := by decide +kernel
theorem dX12_never_20 : decode cX12_never 20 = .ok (.aload_n 0, 1) := by decide +kernel
theorem dX12_never_21 : decode cX12_never 21 = .ok (.invokevirtual 355, 3) := by decide +kernel
theorem dX12_never_24 : decode cX12_never 24 = .ok (.ifCond .ne 5, 3) := by decide +kernel
theorem dX12_never_27 : decode cX12_never 27 = .ok (.iconst (-1), 1) := by decide +kernel
theorem dX12_never_28 : decode cX12_never 28 = .ok (.ireturn, 1) := by decide +kernel
theorem dX12_never_29 : decode cX12_never 29 = .ok (.aload_n 0, 1) := by decide +kernel
theorem dX12_never_30 : decode cX12_never 30 = .ok (.iconst 2, 1) := by decide +kernel
theorem dX12_never_31 : decode cX12_never 31 = .ok (.aload_n 0, 1) := by decide +kernel
theorem dX12_never_32 : decode cX12_never 32 = .ok (.getfield 352, 3) := by decide +kernel
theorem dX12_never_35 : decode cX12_never 35 = .ok (.iadd, 1) := by decide +kernel
theorem dX12_never_36 : decode cX12_never 36 = .ok (.invokevirtual 345, 3) := by decide +kernel
theorem dX12_never_39 : decode cX12_never 39 = .ok (.aload_n 0, 1) := by decide +kernel
theorem dX12_never_40 : decode cX12_never 40 = .ok (.dup, 1) := by decide +kernel
theorem dX12_never_41 : decode cX12_never 41 = .ok (.getfield 352, 3) := by decide +kernel
theorem dX12_never_44 : decode cX12_never 44 = .ok (.iconst 1, 1) := by decide +kernel
theorem dX12_never_45 : decode cX12_never 45 = .ok (.iadd, 1) := by decide +kernel
theorem dX12_never_46 : decode cX12_never 46 = .ok (.putfield 352, 3) := by decide +kernel
theorem dX12_never_49 : decode cX12_never 49 = .ok (.aload_n 0, 1) := by decide +kernel
theorem dX12_never_50 : decode cX12_never 50 = .ok (.getfield 352, 3) := by decide +kernel
theorem dX12_never_53 : decode cX12_never 53 = .ok (.iconst 1, 1) := by decide +kernel
theorem dX12_never_54 : decode cX12_never 54 = .ok (.isub, 1) := by decide +kernel
theorem dX12_never_55 : decode cX12_never 55 = .ok (.ireturn, 1) := by decide +kernel
theorem dX12_next0_0 : decode cX12_next0 0 = .ok (.aload_n 0, 1) := by decide +kernel
theorem dX12_next0_1 : decode cX12_next0 1 = .ok (.aload_n 0, 1) := by decide +kernel
theorem dX12_next0_2 : decode cX12_next0 2 = .ok (.getfield 185, 3) := by decide +kernel
theorem dX12_next0_5 : decode cX12_next0 5 = .ok (.invokevirtual 238, 3) := by decide +kernel
theorem dX12_next0_8 : decode cX12_next0 8 = .ok (.bipush 32, 2) := by decide +kernel
theorem dX12_next0_10 : decode cX12_next0 10 = .ok (.if_icmp .eq 16, 3) := by decide +kernel
theorem dX12_next0_13 : decode cX12_next0 13 = .ok (.aload_n 0, 1) := by decide +kernel
theorem dX12_next0_14 : decode cX12_next0 14 = .ok (.aload_n 0, 1) := by decide +kernel
theorem dX12_next0_15 : decode cX12_next0 15 = .ok (.getfield 185, 3) := by decide +kernel
theorem dX12_next0_18 : decode cX12_next0 18 = .ok (.invokevirtual 238, 3) := by decide +kernel
theorem dX12_next0_21 : decode cX12_next0 21 = .ok (.bipush 10, 2) := by decide +kernel
theorem dX12_next0_23 : decode cX12_next0 23 = .ok (.if_icmp .ne 16, 3) := by decide +kernel
theorem dX12_next0_26 : decode cX12_next0 26 = .ok (.aload_n 0, 1) := by decide +kernel
theorem dX12_next0_27 : decode cX12_next0 27 = .ok (.dup, 1) := by decide +kernel
theorem dX12_next0_28 : decode cX12_next0 28 = .ok (.getfield 185, 3) := by decide +kernel
theorem dX12_next0_31 : decode cX12_next0 31 = .ok (.iconst 1, 1) := by decide +kernel
theorem dX12_next0_32 : decode cX12_next0 32 = .ok (.iadd, 1) := by decide +kernel
theorem dX12_next0_33 : decode cX12_next0 33 = .ok (.putfield 185, 3) := by decide +kernel
theorem dX12_next0_36 : decode cX12_next0 36 = .ok (.goto (-36), 3) := by decide +kernel
theorem dX12_next0_39 : decode cX12_next0 39 = .ok (.aload_n 0, 1) := by decide +kernel
theorem dX12_next0_40 : decode cX12_next0 40 = .ok (.aload_n 0, 1) := by decide +kernel
theorem dX12_next0_41 : decode cX12_next0 41 = .ok (.getfield 185, 3) := by decide +kernel
theorem dX12_next0_44 : decode cX12_next0 44 = .ok (.putfield 188, 3) := by decide +kernel
theorem dX12_next0_47 : decode cX12_next0 47 = .ok (.aload_n 0, 1) := by decide +kernel
theorem dX12_next0_48 : decode cX12_next0 48 = .ok (.aload_n 0, 1) := by decide +kernel
theorem dX12_next0_49 : decode cX12_next0 49 = .ok (.getfield 185, 3) := by decide +kernel
theorem dX12_next0_52 : decode cX12_next0 52 = .ok (.invokevirtual 238, 3) := by decide +kernel
theorem dX12_next0_55 : decode cX12_next0 55 = .ok (.istore_n 1, 1) := by decide +kernel
theorem dX12_next0_56 : decode cX12_next0 56 = .ok (.iload_n 1, 1) := by decide +kernel
theorem dX12_next0_57 : decode cX12_next0 57 = .ok (.iconst (-1), 1) := by decide +kernel
theorem dX12_next0_58 : decode cX12_next0 58 = .ok (.if_icmp .ne 11, 3) := by decide +kernel
theorem dX12_next0_61 : decode cX12_next0 61 = .ok (.aload_n 0, 1) := by decide +kernel
theorem dX12_next0_62 : decode cX12_next0 62 = .ok (.iconst 0, 1) := by decide +kernel
theorem dX12_next0_63 : decode cX12_next0 63 = .ok (.putfield 242, 3) := by decide +kernel
theorem dX12_next0_66 : decode cX12_next0 66 = .ok (.goto 231, 3) := by decide +kernel
theorem dX12_next0_69 : decode cX12_next0 69 = .ok (.iload_n 1, 1) := by decide +kernel
theorem dX12_next0_70 : decode cX12_next0 70 = .ok (.invokestatic 245, 3) := by decide +kernel
theorem dX12_next0_73 : decode cX12_next0 73 = .ok (.ifCond .eq 41, 3) := by decide +kernel
theorem dX12_next0_76 : decode cX12_next0 76 = .ok (.aload_n 0, 1) := by decide +kernel
theorem dX12_next0_77 : decode cX12_next0 77 = .ok (.aload_n 0, 1) := by decide +kernel
theorem dX12_next0_78 : decode cX12_next0 78 = .ok (.getfield 185, 3) := by decide +kernel
theorem dX12_next0_81 : decode cX12_next0 81 = .ok (.invokevirtual 238, 3) := by decide +kernel
theorem dX12_next0_84 : decode cX12_next0 84 = .ok (.invokestatic 245, 3) := by decide +kernel
theorem dX12_next0_87 : decode cX12_next0 87 = .ok (.ifCond .eq 16, 3) := by decide +kernel
theorem dX12_next0_90 : decode cX12_next0 90 = .ok (.aload_n 0, 1) := by decide +kernel
theorem dX12_next0_91 : decode cX12_next0 91 = .ok (.dup, 1) := by decide +kernel
theorem dX12_next0_92 : decode cX12_next0 92 = .ok (.getfield 185, 3) := by decide +kernel
theorem dX12_next0_95 : decode cX12_next0 95 = .ok (.iconst 1, 1) := by decide +kernel
theorem dX12_next0_96 : decode cX12_next0 96 = .ok (.iadd, 1) := by decide +kernel
theorem dX12_next0_97 : decode cX12_next0 97 = .ok (.putfield 185, 3) := by decide +kernel
theorem dX12_next0_100 : decode cX12_next0 100 = .ok (.goto (-24), 3) := by decide +kernel
theorem dX12_next0_103 : decode cX12_next0 103 = .ok (.aload_n 0, 1) := by decide +kernel
theorem dX12_next0_104 : decode cX12_next0 104 = .ok (.aload_n 0, 1) := by decide +kernel
theorem dX12_next0_105 : decode cX12_next0 105 = .ok (.invokevirtual 248, 3) := by decide +kernel
theorem dX12_next0_108 : decode cX12_next0 108 = .ok (.putfield 242, 3) := by decide +kernel
theorem dX12_next0_111 : decode cX12_next0 111 = .ok (.goto 186, 3) := by decide +kernel
theorem dX12_next0_114 : decode cX12_next0 114 = .ok (.iload_n 1, 1) := by decide +kernel
theorem dX12_next0_115 : decode cX12_next0 115 = .ok (.invokestatic 251, 3) := by decide +kernel
theorem dX12_next0_118 : decode cX12_next0 118 = .ok (.ifCond .eq 96, 3) := by decide +kernel
theorem dX12_next0_121 : decode cX12_next0 121 = .ok (.aload_n 0, 1) := by decide +kernel
theorem dX12_next0_122 : decode cX12_next0 122 = .ok (.iconst 0, 1) := by decide +kernel
theorem dX12_next0_123 : decode cX12_next0 123 = .ok (.putfield 254, 3) := by decide +kernel
theorem dX12_next0_126 : decode cX12_next0 126 = .ok (.aload_n 0, 1) := by decide +kernel
theorem dX12_next0_127 : decode cX12_next0 127 = .ok (.aload_n 0, 1) := by decide +kernel
theorem dX12_next0_128 : decode cX12_next0 128 = .ok (.getfield 185, 3) := by decide +kernel
theorem dX12_next0_131 : decode cX12_next0 131 = .ok (.invokevirtual 238, 3) := by decide +kernel
theorem dX12_next0_134 : decode cX12_next0 134 = .ok (.invokestatic 251, 3) := by decide +kernel
theorem dX12_next0_137 : decode cX12_next0 137 = .ok (.ifCond .eq 52, 3) := by decide +kernel
theorem dX12_next0_140 : decode cX12_next0 140 = .ok (.aload_n 0, 1) := by decide +kernel
theorem dX12_next0_141 : decode cX12_next0 141 = .ok (.getfield 185, 3) := by decide +kernel
theorem dX12_next0_144 : decode cX12_next0 144 = .ok (.aload_n 0, 1) := by decide +kernel
theorem dX12_next0_145 : decode cX12_next0 145 = .ok (.getfield 188, 3) := by decide +kernel
theorem dX12_next0_148 : decode cX12_next0 148 = .ok (.iconst 3, 1) := by decide +kernel
theorem dX12_next0_149 : decode cX12_next0 149 = .ok (.iadd, 1) := by decide +kernel
theorem dX12_next0_150 : decode cX12_next0 150 = .ok (.if_icmp .ge 26, 3) := by decide +kernel
theorem dX12_next0_153 : decode cX12_next0 153 = .ok (.aload_n 0, 1) := by decide +kernel
theorem dX12_next0_154 : decode cX12_next0 154 = .ok (.bipush 10, 2) := by decide +kernel
theorem dX12_next0_156 : decode cX12_next0 156 = .ok (.aload_n 0, 1) := by decide +kernel
theorem dX12_next0_157 : decode cX12_next0 157 = .ok (.getfield 254, 3) := by decide +kernel
theorem dX12_next0_160 : decode cX12_next0 160 = .ok (.imul, 1) := by decide +kernel
theorem dX12_next0_161 : decode cX12_next0 161 = .ok (.aload_n 0, 1) := by decide +kernel
theorem dX12_next0_162 : decode cX12_next0 162 = .ok (.aload_n 0, 1) := by decide +kernel
theorem dX12_next0_163 : decode cX12_next0 163 = .ok (.getfield 185, 3) := by decide +kernel
theorem dX12_next0_166 : decode cX12_next0 166 = .ok (.invokevirtual 238, 3) := by decide +kernel
theorem dX12_next0_169 : decode cX12_next0 169 = .ok (.iadd, 1) := by decide +kernel
theorem dX12_next0_170 : decode cX12_next0 170 = .ok (.bipush 48, 2) := by decide +kernel
theorem dX12_next0_172 : decode cX12_next0 172 = .ok (.isub, 1) := by decide +kernel
theorem dX12_next0_173 : decode cX12_next0 173 = .ok (.putfield 254, 3) := by decide +kernel
theorem dX12_next0_176 : decode cX12_next0 176 = .ok (.aload_n 0, 1) := by decide +kernel
theorem dX12_next0_177 : decode cX12_next0 177 = .ok (.dup, 1) := by decide +kernel
theorem dX12_next0_178 : decode cX12_next0 178 = .ok (.getfield 185, 3) := by decide +kernel
theorem dX12_next0_181 : decode cX12_next0 181 = .ok (.iconst 1, 1) := by decide +kernel
theorem dX12_next0_182 : decode cX12_next0 182 = .ok (.iadd, 1) := by decide +kernel
theorem dX12_next0_183 : decode cX12_next0 183 = .ok (.putfield 185, 3) := by decide +kernel
theorem dX12_next0_186 : decode cX12_next0 186 = .ok (.goto (-60), 3) := by decide +kernel
theorem dX12_next0_189 : decode cX12_next0 189 = .ok (.aload_n 0, 1) := by decide +kernel
theorem dX12_next0_190 : decode cX12_next0 190 = .ok (.aload_n 0, 1) := by decide +kernel
theorem dX12_next0_191 : decode cX12_next0 191 = .ok (.getfield 185, 3) := by decide +kernel
theorem dX12_next0_194 : decode cX12_next0 194 = .ok (.aload_n 0, 1) := by decide +kernel
theorem dX12_next0_195 : decode cX12_next0 195 = .ok (.getfield 188, 3) := by decide +kernel
theorem dX12_next0_198 : decode cX12_next0 198 = .ok (.isub, 1) := by decide +kernel
theorem dX12_next0_199 : decode cX12_next0 199 = .ok (.iconst 4, 1) := by decide +kernel
theorem dX12_next0_200 : decode cX12_next0 200 = .ok (.if_icmp .ge 7, 3) := by decide +kernel
theorem dX12_next0_203 : decode cX12_next0 203 = .ok (.iconst 2, 1) := by decide +kernel
theorem dX12_next0_204 : decode cX12_next0 204 = .ok (.goto 4, 3) := by decide +kernel
theorem dX12_next0_207 : decode cX12_next0 207 = .ok (.iconst 1, 1) := by decide +kernel
theorem dX12_next0_208 : decode cX12_next0 208 = .ok (.putfield 242, 3) := by decide +kernel
theorem dX12_next0_211 : decode cX12_next0 211 = .ok (.goto 86, 3) := by decide +kernel
theorem dX12_next0_214 : decode cX12_next0 214 = .ok (.aload_n 0, 1) := by decide +kernel
theorem dX12_next0_215 : decode cX12_next0 215 = .ok (.dup, 1) := by decide +kernel
theorem dX12_next0_216 : decode cX12_next0 216 = .ok (.getfield 185, 3) := by decide +kernel
theorem dX12_next0_219 : decode cX12_next0 219 = .ok (.iconst 1, 1) := by decide +kernel
theorem dX12_next0_220 : decode cX12_next0 220 = .ok (.iadd, 1) := by decide +kernel
theorem dX12_next0_221 : decode cX12_next0 221 = .ok (.putfield 185, 3) := by decide +kernel
theorem dX12_next0_224 : decode cX12_next0 224 = .ok (.iload_n 1, 1) := by decide +kernel
theorem dX12_next0_225 : decode cX12_next0 225 = .ok (.bipush 59, 2) := by decide +kernel
theorem dX12_next0_227 : decode cX12_next0 227 = .ok (.if_icmp .eq 51, 3) := by decide +kernel
theorem dX12_next0_230 : decode cX12_next0 230 = .ok (.iload_n 1, 1) := by decide +kernel
theorem dX12_next0_231 : decode cX12_next0 231 = .ok (.bipush 43, 2) := by decide +kernel
theorem dX12_next0_233 : decode cX12_next0 233 = .ok (.if_icmp .eq 45, 3) := by decide +kernel
theorem dX12_next0_236 : decode cX12_next0 236 = .ok (.iload_n 1, 1) := by decide +kernel
theorem dX12_next0_237 : decode cX12_next0 237 = .ok (.bipush 45, 2) := by decide +kernel
theorem dX12_next0_239 : decode cX12_next0 239 = .ok (.if_icmp .eq 39, 3) := by decide +kernel
theorem dX12_next0_242 : decode cX12_next0 242 = .ok (.iload_n 1, 1) := by decide +kernel
theorem dX12_next0_243 : decode cX12_next0 243 = .ok (.bipush 42, 2) := by decide +kernel
theorem dX12_next0_245 : decode cX12_next0 245 = .ok (.if_icmp .eq 33, 3) := by decide +kernel
theorem dX12_next0_248 : decode cX12_next0 248 = .ok (.iload_n 1, 1) := by decide +kernel
theorem dX12_next0_249 : decode cX12_next0 249 = .ok (.bipush 40, 2) := by decide +kernel
theorem dX12_next0_251 : decode cX12_next0 251 = .ok (.if_icmp .eq 27, 3) := by decide +kernel
theorem dX12_next0_254 : decode cX12_next0 254 = .ok (.iload_n 1, 1) := by decide +kernel
theorem dX12_next0_255 : decode cX12_next0 255 = .ok (.bipush 41, 2) := by decide +kernel
theorem dX12_next0_257 : decode cX12_next0 257 = .ok (.if_icmp .eq 21, 3) := by decide +kernel
theorem dX12_next0_260 : decode cX12_next0 260 = .ok (.iload_n 1, 1) := by decide +kernel
theorem dX12_next0_261 : decode cX12_next0 261 = .ok (.bipush 60, 2) := by decide +kernel
theorem dX12_next0_263 : decode cX12_next0 263 = .ok (.if_icmp .eq 15, 3) := by decide +kernel
theorem dX12_next0_266 : decode cX12_next0 266 = .ok (.iload_n 1, 1) := by decide +kernel
theorem dX12_next0_267 : decode cX12_next0 267 = .ok (.bipush 61, 2) := by decide +kernel
theorem dX12_next0_269 : decode cX12_next0 269 = .ok (.if_icmp .eq 9, 3) := by decide +kernel
theorem dX12_next0_272 : decode cX12_next0 272 = .ok (.iload_n 1, 1) := by decide +kernel
theorem dX12_next0_273 : decode cX12_next0 273 = .ok (.bipush 62, 2) := by decide +kernel
theorem dX12_next0_275 : decode cX12_next0 275 = .ok (.if_icmp .ne 7, 3) := by decide +kernel
theorem dX12_next0_278 : decode cX12_next0 278 = .ok (.iconst 1, 1) := by decide +kernel
theorem dX12_next0_279 : decode cX12_next0 279 = .ok (.goto 4, 3) := by decide +kernel
theorem dX12_next0_282 : decode cX12_next0 282 = .ok (.iconst 0, 1) := by decide +kernel
theorem dX12_next0_283 : decode cX12_next0 283 = .ok (.istore_n 2, 1) := by decide +kernel
theorem dX12_next0_284 : decode cX12_next0 284 = .ok (.aload_n 0, 1) := by decide +kernel
theorem dX12_next0_285 : decode cX12_next0 285 = .ok (.iload_n 2, 1) := by decide +kernel
theorem dX12_next0_286 : decode cX12_next0 286 = .ok (.ifCond .eq 7, 3) := by decide +kernel
theorem dX12_next0_289 : decode cX12_next0 289 = .ok (.iload_n 1, 1) := by decide +kernel
theorem dX12_next0_290 : decode cX12_next0 290 = .ok (.goto 4, 3) := by decide +kernel
theorem dX12_next0_293 : decode cX12_next0 293 = .ok (.iconst 1, 1) := by decide +kernel
theorem dX12_next0_294 : decode cX12_next0 294 = .ok (.putfield 242, 3) := by decide +kernel
theorem dX12_next0_297 : decode cX12_next0 297 = .ok (.return_, 1) := by decide +kernel
theorem dX12_only_0 : decode cX12_only 0 = .ok (.aload_n 0, 1) := by decide +kernel
theorem dX12_only_1 : decode cX12_only 1 = .ok (.iload_n 1, 1) := by decide +kernel
theorem dX12_only_2 : decode cX12_only 2 = .ok (.invokevirtual 430, 3) := by decide +kernel
theorem dX12_only_5 : decode cX12_only 5 = .ok (.ifCond .eq 13, 3) := by decide +kernel
theorem dX12_only_8 : decode cX12_only 8 = .ok (.iload_n 2, 1) := by decide +kernel
theorem dX12_only_9 : decode cX12_only 9 = .ok (.iconst 0, 1) := by decide +kernel
theorem dX12_only_10 : decode cX12_only 10 = .ok (.bipush 6, 2) := by decide +kernel
theorem dX12_only_12 : decode cX12_only 12 = .ok (.invokestatic 1, 3) := by decide +kernel
theorem dX12_only_15 : decode cX12_only 15 = .ok (.ifCond .ne 5, 3) := by decide +kernel
theorem dX12_only_18 : decode cX12_only 18 = .ok (.iconst (-1), 1) := by decide +kernel
theorem dX12_only_19 : decode cX12_only 19 = .ok (.ireturn, 1) := by decide +kernel
theorem dX12_only_20 : decode cX12_only 20 = .ok (.iconst 1, 1) := by decide +kernel
theorem dX12_only_21 : decode cX12_only 21 = .ok (.istore_n 3, 1) := by decide +kernel
theorem dX12_only_22 : decode cX12_only 22 = .ok (.iconst 0, 1) := by decide +kernel
theorem dX12_only_23 : decode cX12_only 23 = .ok (.istore 4, 2) := by decide +kernel
theorem dX12_only_25 : decode cX12_only 25 = .ok (.iconst 1, 1) := by decide +kernel
theorem dX12_only_26 : decode cX12_only 26 = .ok (.istore 5, 2) := by decide +kernel
theorem dX12_only_28 : decode cX12_only 28 = .ok (.iload 5, 2) := by decide +kernel
theorem dX12_only_30 : decode cX12_only 30 = .ok (.iconst 4, 1) := by decide +kernel
theorem dX12_only_31 : decode cX12_only 31 = .ok (.if_icmp .ge 76, 3) := by decide +kernel
theorem dX12_only_34 : decode cX12_only 34 = .ok (.aload_n 0, 1) := by decide +kernel
theorem dX12_only_35 : decode cX12_only 35 = .ok (.iload_n 1, 1) := by decide +kernel
theorem dX12_only_36 : decode cX12_only 36 = .ok (.iload 5, 2) := by decide +kernel
theorem dX12_only_38 : decode cX12_only 38 = .ok (.iload_n 2, 1) := by decide +kernel
theorem dX12_only_39 : decode cX12_only 39 = .ok (.bipush 7, 2) := by decide +kernel
theorem dX12_only_41 : decode cX12_only 41 = .ok (.iconst 0, 1) := by decide +kernel
theorem dX12_only_42 : decode cX12_only 42 = .ok (.invokevirtual 436, 3) := by decide +kernel
theorem dX12_only_45 : decode cX12_only 45 = .ok (.iload 4, 2) := by decide +kernel
theorem dX12_only_47 : decode cX12_only 47 = .ok (.ifCond .ne 10, 3) := by decide +kernel
theorem dX12_only_50 : decode cX12_only 50 = .ok (.aload_n 0, 1) := by decide +kernel
theorem dX12_only_51 : decode cX12_only 51 = .ok (.getfield 408, 3) := by decide +kernel
theorem dX12_only_54 : decode cX12_only 54 = .ok (.ifCond .eq 7, 3) := by decide +kernel
theorem dX12_only_57 : decode cX12_only 57 = .ok (.iconst 1, 1) := by decide +kernel
theorem dX12_only_58 : decode cX12_only 58 = .ok (.goto 4, 3) := by decide +kernel
theorem dX12_only_61 : decode cX12_only 61 = .ok (.iconst 0, 1) := by decide +kernel
theorem dX12_only_62 : decode cX12_only 62 = .ok (.istore 4, 2) := by decide +kernel
theorem dX12_only_64 : decode cX12_only 64 = .ok (.iload_n 3, 1) := by decide +kernel
theorem dX12_only_65 : decode cX12_only 65 = .ok (.ifCond .eq 34, 3) := by decide +kernel
theorem dX12_only_68 : decode cX12_only 68 = .ok (.aload_n 0, 1) := by decide +kernel
theorem dX12_only_69 : decode cX12_only 69 = .ok (.getfield 411, 3) := by decide +kernel
theorem dX12_only_72 : decode cX12_only 72 = .ok (.iconst (-1), 1) := by decide +kernel
theorem dX12_only_73 : decode cX12_only 73 = .ok (.if_icmp .eq 7, 3) := by decide +kernel
theorem dX12_only_76 : decode cX12_only 76 = .ok (.iconst 1, 1) := by decide +kernel
theorem dX12_only_77 : decode cX12_only 77 = .ok (.goto 4, 3) := by decide +kernel
theorem dX12_only_80 : decode cX12_only 80 = .ok (.iconst 0, 1) := by decide +kernel
theorem dX12_only_81 : decode cX12_only 81 = .ok (.iload 5, 2) := by decide +kernel
theorem dX12_only_83 : decode cX12_only 83 = .ok (.iconst 3, 1) := by decide +kernel
theorem dX12_only_84 : decode cX12_only 84 = .ok (.if_icmp .ne 7, 3) := by decide +kernel
theorem dX12_only_87 : decode cX12_only 87 = .ok (.iconst 1, 1) := by decide +kernel
theorem dX12_only_88 : decode cX12_only 88 = .ok (.goto 4, 3) := by decide +kernel
theorem dX12_only_91 : decode cX12_only 91 = .ok (.iconst 0, 1) := by decide +kernel
theorem dX12_only_92 : decode cX12_only 92 = .ok (.if_icmp .ne 7, 3) := by decide +kernel
theorem dX12_only_95 : decode cX12_only 95 = .ok (.iconst 1, 1) := by decide +kernel
theorem dX12_only_96 : decode cX12_only 96 = .ok (.goto 4, 3) := by decide +kernel
theorem dX12_only_99 : decode cX12_only 99 = .ok (.iconst 0, 1) := by decide +kernel
theorem dX12_only_100 : decode cX12_only 100 = .ok (.istore_n 3, 1) := by decide +kernel
theorem dX12_only_101 : decode cX12_only 101 = .ok (.iinc 5 1, 3) := by decide +kernel
theorem dX12_only_104 : decode cX12_only 104 = .ok (.goto (-76), 3) := by decide +kernel
theorem dX12_only_107 : decode cX12_only 107 = .ok (.iload 4, 2) := by decide +kernel
theorem dX12_only_109 : decode cX12_only 109 = .ok (.ifCond .eq 8, 3) := by decide +kernel
theorem dX12_only_112 : decode cX12_only 112 = .ok (.bipush (-2), 2) := by decide +kernel
theorem dX12_only_114 : decode cX12_only 114 = .ok (.goto 12, 3) := by decide +kernel
theorem dX12_only_117 : decode cX12_only 117 = .ok (.iload_n 3, 1) := by decide +kernel
theorem dX12_only_118 : decode cX12_only 118 = .ok (.ifCond .eq 7, 3) := by decide +kernel
theorem dX12_only_121 : decode cX12_only 121 = .ok (.iconst 1, 1) := by decide +kernel
theorem dX12_only_122 : decode cX12_only 122 = .ok (.goto 4, 3) := by decide +kernel
theorem dX12_only_125 : decode cX12_only 125 = .ok (.iconst 0, 1) := by decide +kernel
theorem dX12_only_126 : decode cX12_only 126 = .ok (.ireturn, 1) := by decide +kernel
theorem dX12_opens_0 : decode cX12_opens 0 = .ok (.aload_n 0, 1) := by decide +kernel
theorem dX12_opens_1 : decode cX12_opens 1 = .ok (.getfield 282, 3) := by decide +kernel
theorem dX12_opens_4 : decode cX12_opens 4 = .ok (.bipush 8, 2) := by decide +kernel
theorem dX12_opens_6 : decode cX12_opens 6 = .ok (.if_icmp .ne 9, 3) := by decide +kernel
theorem dX12_opens_9 : decode cX12_opens 9 = .ok (.aload_n 0, 1) := by decide +kernel
theorem dX12_opens_10 : decode cX12_opens 10 = .ok (.iconst 3, 1) := by decide +kernel
theorem dX12_opens_11 : decode cX12_opens 11 = .ok (.invokevirtual 263, 3) := by decide +kernel
theorem dX12_opens_14 : decode cX12_opens 14 = .ok (.ireturn, 1) := by decide +kernel
theorem dX12_opens_15 : decode cX12_opens 15 = .ok (.aload_n 0, 1) := by decide +kernel
theorem dX12_opens_16 : decode cX12_opens 16 = .ok (.dup, 1) := by decide +kernel
theorem dX12_opens_17 : decode cX12_opens 17 = .ok (.getfield 282, 3) := by decide +kernel
theorem dX12_opens_20 : decode cX12_opens 20 = .ok (.iconst 1, 1) := by decide +kernel
theorem dX12_opens_21 : decode cX12_opens 21 = .ok (.iadd, 1) := by decide +kernel
theorem dX12_opens_22 : decode cX12_opens 22 = .ok (.putfield 282, 3) := by decide +kernel
theorem dX12_opens_25 : decode cX12_opens 25 = .ok (.aload_n 0, 1) := by decide +kernel
theorem dX12_opens_26 : decode cX12_opens 26 = .ok (.invokevirtual 266, 3) := by decide +kernel
theorem dX12_opens_29 : decode cX12_opens 29 = .ok (.iconst 1, 1) := by decide +kernel
theorem dX12_opens_30 : decode cX12_opens 30 = .ok (.ireturn, 1) := by decide +kernel
theorem dX12_other_0 : decode cX12_other 0 = .ok (.iload_n 0, 1) := by decide +kernel
theorem dX12_other_1 : decode cX12_other 1 = .ok (.iconst 1, 1) := by decide +kernel
theorem dX12_other_2 : decode cX12_other 2 = .ok (.iadd, 1) := by decide +kernel
theorem dX12_other_3 : decode cX12_other 3 = .ok (.iload_n 1, 1) := by decide +kernel
theorem dX12_other_4 : decode cX12_other 4 = .ok (.iadd, 1) := by decide +kernel
theorem dX12_other_5 : decode cX12_other 5 = .ok (.iconst 3, 1) := by decide +kernel
theorem dX12_other_6 : decode cX12_other 6 = .ok (.irem, 1) := by decide +kernel
theorem dX12_other_7 : decode cX12_other 7 = .ok (.ireturn, 1) := by decide +kernel
theorem dX12_owner_0 : decode cX12_owner 0 = .ok (.iload_n 1, 1) := by decide +kernel
theorem dX12_owner_1 : decode cX12_owner 1 = .ok (.invokestatic 170, 3) := by decide +kernel
theorem dX12_owner_4 : decode cX12_owner 4 = .ok (.ifCond .eq 12, 3) := by decide +kernel
theorem dX12_owner_7 : decode cX12_owner 7 = .ok (.iload_n 2, 1) := by decide +kernel
theorem dX12_owner_8 : decode cX12_owner 8 = .ok (.iconst 0, 1) := by decide +kernel
theorem dX12_owner_9 : decode cX12_owner 9 = .ok (.iconst 3, 1) := by decide +kernel
theorem dX12_owner_10 : decode cX12_owner 10 = .ok (.invokestatic 1, 3) := by decide +kernel
theorem dX12_owner_13 : decode cX12_owner 13 = .ok (.ifCond .ne 5, 3) := by decide +kernel
theorem dX12_owner_16 : decode cX12_owner 16 = .ok (.iconst 0, 1) := by decide +kernel
theorem dX12_owner_17 : decode cX12_owner 17 = .ok (.ireturn, 1) := by decide +kernel
theorem dX12_owner_18 : decode cX12_owner 18 = .ok (.aload_n 0, 1) := by decide +kernel
theorem dX12_owner_19 : decode cX12_owner 19 = .ok (.aload_n 0, 1) := by decide +kernel
theorem dX12_owner_20 : decode cX12_owner 20 = .ok (.getfield 153, 3) := by decide +kernel
theorem dX12_owner_23 : decode cX12_owner 23 = .ok (.invokevirtual 174, 3) := by decide +kernel
theorem dX12_owner_26 : decode cX12_owner 26 = .ok (.aload_n 0, 1) := by decide +kernel
theorem dX12_owner_27 : decode cX12_owner 27 = .ok (.getfield 20, 3) := by decide +kernel
theorem dX12_owner_30 : decode cX12_owner 30 = .ok (.iload_n 1, 1) := by decide +kernel
theorem dX12_owner_31 : decode cX12_owner 31 = .ok (.iload_n 2, 1) := by decide +kernel
theorem dX12_owner_32 : decode cX12_owner 32 = .ok (.iastore, 1) := by decide +kernel
theorem dX12_owner_33 : decode cX12_owner 33 = .ok (.aload_n 0, 1) := by decide +kernel
theorem dX12_owner_34 : decode cX12_owner 34 = .ok (.invokevirtual 178, 3) := by decide +kernel
theorem dX12_owner_37 : decode cX12_owner 37 = .ok (.ireturn, 1) := by decide +kernel
theorem dX12_packs_0 : decode cX12_packs 0 = .ok (.aload_n 0, 1) := by decide +kernel
theorem dX12_packs_1 : decode cX12_packs 1 = .ok (.getfield 157, 3) := by decide +kernel
theorem dX12_packs_4 : decode cX12_packs 4 = .ok (.i2l, 1) := by decide +kernel
theorem dX12_packs_5 : decode cX12_packs 5 = .ok (.lstore_n 1, 1) := by decide +kernel
theorem dX12_packs_6 : decode cX12_packs 6 = .ok (.iconst 0, 1) := by decide +kernel
theorem dX12_packs_7 : decode cX12_packs 7 = .ok (.istore_n 3, 1) := by decide +kernel
theorem dX12_packs_8 : decode cX12_packs 8 = .ok (.iload_n 3, 1) := by decide +kernel
theorem dX12_packs_9 : decode cX12_packs 9 = .ok (.iconst 3, 1) := by decide +kernel
theorem dX12_packs_10 : decode cX12_packs 10 = .ok (.if_icmp .ge 124, 3) := by decide +kernel
theorem dX12_packs_13 : decode cX12_packs 13 = .ok (.lload_n 1, 1) := by decide +kernel
theorem dX12_packs_14 : decode cX12_packs 14 = .ok (.iconst 4, 1) := by decide +kernel
theorem dX12_packs_15 : decode cX12_packs 15 = .ok (.lshl, 1) := by decide +kernel
theorem dX12_packs_16 : decode cX12_packs 16 = .ok (.aload_n 0, 1) := by decide +kernel
theorem dX12_packs_17 : decode cX12_packs 17 = .ok (.getfield 13, 3) := by decide +kernel
theorem dX12_packs_20 : decode cX12_packs 20 = .ok (.iload_n 3, 1) := by decide +kernel
theorem dX12_packs_21 : decode cX12_packs 21 = .ok (.iaload, 1) := by decide +kernel
theorem dX12_packs_22 : decode cX12_packs 22 = .ok (.i2l, 1) := by decide +kernel
theorem dX12_packs_23 : decode cX12_packs 23 = .ok (.lor, 1) := by decide +kernel
theorem dX12_packs_24 : decode cX12_packs 24 = .ok (.lstore_n 1, 1) := by decide +kernel
theorem dX12_packs_25 : decode cX12_packs 25 = .ok (.lload_n 1, 1) := by decide +kernel
theorem dX12_packs_26 : decode cX12_packs 26 = .ok (.iconst 2, 1) := by decide +kernel
theorem dX12_packs_27 : decode cX12_packs 27 = .ok (.lshl, 1) := by decide +kernel
theorem dX12_packs_28 : decode cX12_packs 28 = .ok (.aload_n 0, 1) := by decide +kernel
theorem dX12_packs_29 : decode cX12_packs 29 = .ok (.getfield 20, 3) := by decide +kernel
theorem dX12_packs_32 : decode cX12_packs 32 = .ok (.iload_n 3, 1) := by decide +kernel
theorem dX12_packs_33 : decode cX12_packs 33 = .ok (.iaload, 1) := by decide +kernel
theorem dX12_packs_34 : decode cX12_packs 34 = .ok (.i2l, 1) := by decide +kernel
theorem dX12_packs_35 : decode cX12_packs 35 = .ok (.lor, 1) := by decide +kernel
theorem dX12_packs_36 : decode cX12_packs 36 = .ok (.lstore_n 1, 1) := by decide +kernel
theorem dX12_packs_37 : decode cX12_packs 37 = .ok (.lload_n 1, 1) := by decide +kernel
theorem dX12_packs_38 : decode cX12_packs 38 = .ok (.iconst 1, 1) := by decide +kernel
theorem dX12_packs_39 : decode cX12_packs 39 = .ok (.lshl, 1) := by decide +kernel
theorem dX12_packs_40 : decode cX12_packs 40 = .ok (.aload_n 0, 1) := by decide +kernel
theorem dX12_packs_41 : decode cX12_packs 41 = .ok (.getfield 23, 3) := by decide +kernel
theorem dX12_packs_44 : decode cX12_packs 44 = .ok (.iconst 3, 1) := by decide +kernel
theorem dX12_packs_45 : decode cX12_packs 45 = .ok (.iload_n 3, 1) := by decide +kernel
theorem dX12_packs_46 : decode cX12_packs 46 = .ok (.imul, 1) := by decide +kernel
theorem dX12_packs_47 : decode cX12_packs 47 = .ok (.iload_n 3, 1) := by decide +kernel
theorem dX12_packs_48 : decode cX12_packs 48 = .ok (.iconst 0, 1) := by decide +kernel
theorem dX12_packs_49 : decode cX12_packs 49 = .ok (.invokestatic 160, 3) := by decide +kernel
theorem dX12_packs_52 : decode cX12_packs 52 = .ok (.iadd, 1) := by decide +kernel
theorem dX12_packs_53 : decode cX12_packs 53 = .ok (.baload, 1) := by decide +kernel
theorem dX12_packs_54 : decode cX12_packs 54 = .ok (.ifCond .eq 7, 3) := by decide +kernel
theorem dX12_packs_57 : decode cX12_packs 57 = .ok (.lconst 1, 1) := by decide +kernel
theorem dX12_packs_58 : decode cX12_packs 58 = .ok (.goto 4, 3) := by decide +kernel
theorem dX12_packs_61 : decode cX12_packs 61 = .ok (.lconst 0, 1) := by decide +kernel
theorem dX12_packs_62 : decode cX12_packs 62 = .ok (.lor, 1) := by decide +kernel
theorem dX12_packs_63 : decode cX12_packs 63 = .ok (.lstore_n 1, 1) := by decide +kernel
theorem dX12_packs_64 : decode cX12_packs 64 = .ok (.iconst 0, 1) := by decide +kernel
theorem dX12_packs_65 : decode cX12_packs 65 = .ok (.istore 4, 2) := by decide +kernel
theorem dX12_packs_67 : decode cX12_packs 67 = .ok (.iload 4, 2) := by decide +kernel
theorem dX12_packs_69 : decode cX12_packs 69 = .ok (.iconst 2, 1) := by decide +kernel
theorem dX12_packs_70 : decode cX12_packs 70 = .ok (.if_icmp .ge 58, 3) := by decide +kernel
theorem dX12_packs_73 : decode cX12_packs 73 = .ok (.lload_n 1, 1) := by decide +kernel
theorem dX12_packs_74 : decode cX12_packs 74 = .ok (.iconst 3, 1) := by decide +kernel
theorem dX12_packs_75 : decode cX12_packs 75 = .ok (.lshl, 1) := by decide +kernel
theorem dX12_packs_76 : decode cX12_packs 76 = .ok (.aload_n 0, 1) := by decide +kernel
theorem dX12_packs_77 : decode cX12_packs 77 = .ok (.getfield 17, 3) := by decide +kernel
theorem dX12_packs_80 : decode cX12_packs 80 = .ok (.iconst 3, 1) := by decide +kernel
theorem dX12_packs_81 : decode cX12_packs 81 = .ok (.iload_n 3, 1) := by decide +kernel
theorem dX12_packs_82 : decode cX12_packs 82 = .ok (.imul, 1) := by decide +kernel
theorem dX12_packs_83 : decode cX12_packs 83 = .ok (.iload_n 3, 1) := by decide +kernel
theorem dX12_packs_84 : decode cX12_packs 84 = .ok (.iload 4, 2) := by decide +kernel
theorem dX12_packs_86 : decode cX12_packs 86 = .ok (.invokestatic 160, 3) := by decide +kernel
theorem dX12_packs_89 : decode cX12_packs 89 = .ok (.iadd, 1) := by decide +kernel
theorem dX12_packs_90 : decode cX12_packs 90 = .ok (.iaload, 1) := by decide +kernel
theorem dX12_packs_91 : decode cX12_packs 91 = .ok (.i2l, 1) := by decide +kernel
theorem dX12_packs_92 : decode cX12_packs 92 = .ok (.lor, 1) := by decide +kernel
theorem dX12_packs_93 : decode cX12_packs 93 = .ok (.lstore_n 1, 1) := by decide +kernel
theorem dX12_packs_94 : decode cX12_packs 94 = .ok (.lload_n 1, 1) := by decide +kernel
theorem dX12_packs_95 : decode cX12_packs 95 = .ok (.iconst 1, 1) := by decide +kernel
theorem dX12_packs_96 : decode cX12_packs 96 = .ok (.lshl, 1) := by decide +kernel
theorem dX12_packs_97 : decode cX12_packs 97 = .ok (.aload_n 0, 1) := by decide +kernel
theorem dX12_packs_98 : decode cX12_packs 98 = .ok (.getfield 27, 3) := by decide +kernel
theorem dX12_packs_101 : decode cX12_packs 101 = .ok (.iconst 3, 1) := by decide +kernel
theorem dX12_packs_102 : decode cX12_packs 102 = .ok (.iload_n 3, 1) := by decide +kernel
theorem dX12_packs_103 : decode cX12_packs 103 = .ok (.imul, 1) := by decide +kernel
theorem dX12_packs_104 : decode cX12_packs 104 = .ok (.iload_n 3, 1) := by decide +kernel
theorem dX12_packs_105 : decode cX12_packs 105 = .ok (.iload 4, 2) := by decide +kernel
theorem dX12_packs_107 : decode cX12_packs 107 = .ok (.invokestatic 160, 3) := by decide +kernel
theorem dX12_packs_110 : decode cX12_packs 110 = .ok (.iadd, 1) := by decide +kernel
theorem dX12_packs_111 : decode cX12_packs 111 = .ok (.baload, 1) := by decide +kernel
theorem dX12_packs_112 : decode cX12_packs 112 = .ok (.ifCond .eq 7, 3) := by decide +kernel
theorem dX12_packs_115 : decode cX12_packs 115 = .ok (.lconst 1, 1) := by decide +kernel
theorem dX12_packs_116 : decode cX12_packs 116 = .ok (.goto 4, 3) := by decide +kernel
theorem dX12_packs_119 : decode cX12_packs 119 = .ok (.lconst 0, 1) := by decide +kernel
theorem dX12_packs_120 : decode cX12_packs 120 = .ok (.lor, 1) := by decide +kernel
theorem dX12_packs_121 : decode cX12_packs 121 = .ok (.lstore_n 1, 1) := by decide +kernel
theorem dX12_packs_122 : decode cX12_packs 122 = .ok (.iinc 4 1, 3) := by decide +kernel
theorem dX12_packs_125 : decode cX12_packs 125 = .ok (.goto (-58), 3) := by decide +kernel
theorem dX12_packs_128 : decode cX12_packs 128 = .ok (.iinc 3 1, 3) := by decide +kernel
theorem dX12_packs_131 : decode cX12_packs 131 = .ok (.goto (-123), 3) := by decide +kernel
theorem dX12_packs_134 : decode cX12_packs 134 = .ok (.lload_n 1, 1) := by decide +kernel
theorem dX12_packs_135 : decode cX12_packs 135 = .ok (.lreturn, 1) := by decide +kernel
theorem dX12_past_0 : decode cX12_past 0 = .ok (.iload_n 1, 1) := by decide +kernel
theorem dX12_past_1 : decode cX12_past 1 = .ok (.invokestatic 455, 3) := by decide +kernel
theorem dX12_past_4 : decode cX12_past 4 = .ok (.ifCond .eq 13, 3) := by decide +kernel
theorem dX12_past_7 : decode cX12_past 7 = .ok (.aload_n 0, 1) := by decide +kernel
theorem dX12_past_8 : decode cX12_past 8 = .ok (.getfield 470, 3) := by decide +kernel
theorem dX12_past_11 : decode cX12_past 11 = .ok (.sipush 200, 3) := by decide +kernel
theorem dX12_past_14 : decode cX12_past 14 = .ok (.if_icmp .ne 5, 3) := by decide +kernel
theorem dX12_past_17 : decode cX12_past 17 = .ok (.iconst (-1), 1) := by decide +kernel
theorem dX12_past_18 : decode cX12_past 18 = .ok (.ireturn, 1) := by decide +kernel
theorem dX12_past_19 : decode cX12_past 19 = .ok (.aload_n 0, 1) := by decide +kernel
theorem dX12_past_20 : decode cX12_past 20 = .ok (.getfield 146, 3) := by decide +kernel
theorem dX12_past_23 : decode cX12_past 23 = .ok (.aload_n 0, 1) := by decide +kernel
theorem dX12_past_24 : decode cX12_past 24 = .ok (.getfield 470, 3) := by decide +kernel
theorem dX12_past_27 : decode cX12_past 27 = .ok (.iload_n 1, 1) := by decide +kernel
theorem dX12_past_28 : decode cX12_past 28 = .ok (.iastore, 1) := by decide +kernel
theorem dX12_past_29 : decode cX12_past 29 = .ok (.aload_n 0, 1) := by decide +kernel
theorem dX12_past_30 : decode cX12_past 30 = .ok (.dup, 1) := by decide +kernel
theorem dX12_past_31 : decode cX12_past 31 = .ok (.getfield 470, 3) := by decide +kernel
theorem dX12_past_34 : decode cX12_past 34 = .ok (.iconst 1, 1) := by decide +kernel
theorem dX12_past_35 : decode cX12_past 35 = .ok (.iadd, 1) := by decide +kernel
theorem dX12_past_36 : decode cX12_past 36 = .ok (.putfield 470, 3) := by decide +kernel
theorem dX12_past_39 : decode cX12_past 39 = .ok (.aload_n 0, 1) := by decide +kernel
theorem dX12_past_40 : decode cX12_past 40 = .ok (.getfield 470, 3) := by decide +kernel
theorem dX12_past_43 : decode cX12_past 43 = .ok (.ireturn, 1) := by decide +kernel
theorem dX12_person_0 : decode cX12_person 0 = .ok (.aload_n 0, 1) := by decide +kernel
theorem dX12_person_1 : decode cX12_person 1 = .ok (.getfield 242, 3) := by decide +kernel
theorem dX12_person_4 : decode cX12_person 4 = .ok (.sipush 318, 3) := by decide +kernel
theorem dX12_person_7 : decode cX12_person 7 = .ok (.if_icmp .eq 19, 3) := by decide +kernel
theorem dX12_person_10 : decode cX12_person 10 = .ok (.aload_n 0, 1) := by decide +kernel
theorem dX12_person_11 : decode cX12_person 11 = .ok (.getfield 242, 3) := by decide +kernel
theorem dX12_person_14 : decode cX12_person 14 = .ok (.sipush 319, 3) := by decide +kernel
theorem dX12_person_17 : decode cX12_person 17 = .ok (.if_icmp .eq 9, 3) := by decide +kernel
theorem dX12_person_20 : decode cX12_person 20 = .ok (.aload_n 0, 1) := by decide +kernel
theorem dX12_person_21 : decode cX12_person 21 = .ok (.iconst 1, 1) := by decide +kernel
theorem dX12_person_22 : decode cX12_person 22 = .ok (.invokevirtual 263, 3) := by decide +kernel
theorem dX12_person_25 : decode cX12_person 25 = .ok (.ireturn, 1) := by decide +kernel
theorem dX12_person_26 : decode cX12_person 26 = .ok (.aload_n 0, 1) := by decide +kernel
theorem dX12_person_27 : decode cX12_person 27 = .ok (.aload_n 0, 1) := by decide +kernel
theorem dX12_person_28 : decode cX12_person 28 = .ok (.getfield 242, 3) := by decide +kernel
theorem dX12_person_31 : decode cX12_person 31 = .ok (.sipush 318, 3) := by decide +kernel
theorem dX12_person_34 : decode cX12_person 34 = .ok (.isub, 1) := by decide +kernel
theorem dX12_person_35 : decode cX12_person 35 = .ok (.putfield 269, 3) := by decide +kernel
theorem dX12_person_38 : decode cX12_person 38 = .ok (.aload_n 0, 1) := by decide +kernel
theorem dX12_person_39 : decode cX12_person 39 = .ok (.aload_n 0, 1) := by decide +kernel
theorem dX12_person_40 : decode cX12_person 40 = .ok (.getfield 272, 3) := by decide +kernel
theorem dX12_person_43 : decode cX12_person 43 = .ok (.ifCond .ne 11, 3) := by decide +kernel
theorem dX12_person_46 : decode cX12_person 46 = .ok (.aload_n 0, 1) := by decide +kernel
theorem dX12_person_47 : decode cX12_person 47 = .ok (.getfield 269, 3) := by decide +kernel
theorem dX12_person_50 : decode cX12_person 50 = .ok (.iconst 1, 1) := by decide +kernel
theorem dX12_person_51 : decode cX12_person 51 = .ok (.if_icmp .ne 7, 3) := by decide +kernel
theorem dX12_person_54 : decode cX12_person 54 = .ok (.iconst 1, 1) := by decide +kernel
theorem dX12_person_55 : decode cX12_person 55 = .ok (.goto 4, 3) := by decide +kernel
theorem dX12_person_58 : decode cX12_person 58 = .ok (.iconst 0, 1) := by decide +kernel
theorem dX12_person_59 : decode cX12_person 59 = .ok (.putfield 272, 3) := by decide +kernel
theorem dX12_person_62 : decode cX12_person 62 = .ok (.aload_n 0, 1) := by decide +kernel
theorem dX12_person_63 : decode cX12_person 63 = .ok (.invokevirtual 266, 3) := by decide +kernel
theorem dX12_person_66 : decode cX12_person 66 = .ok (.iconst 1, 1) := by decide +kernel
theorem dX12_person_67 : decode cX12_person 67 = .ok (.ireturn, 1) := by decide +kernel
theorem dX12_persons_0 : decode cX12_persons 0 = .ok (.aload_n 0, 1) := by decide +kernel
theorem dX12_persons_1 : decode cX12_persons 1 = .ok (.invokevirtual 276, 3) := by decide +kernel
theorem dX12_persons_4 : decode cX12_persons 4 = .ok (.ifCond .ne 5, 3) := by decide +kernel
theorem dX12_persons_7 : decode cX12_persons 7 = .ok (.iconst 0, 1) := by decide +kernel
theorem dX12_persons_8 : decode cX12_persons 8 = .ok (.ireturn, 1) := by decide +kernel
theorem dX12_persons_9 : decode cX12_persons 9 = .ok (.aload_n 0, 1) := by decide +kernel
theorem dX12_persons_10 : decode cX12_persons 10 = .ok (.getfield 269, 3) := by decide +kernel
theorem dX12_persons_13 : decode cX12_persons 13 = .ok (.istore_n 1, 1) := by decide +kernel
theorem dX12_persons_14 : decode cX12_persons 14 = .ok (.aload_n 0, 1) := by decide +kernel
theorem dX12_persons_15 : decode cX12_persons 15 = .ok (.getfield 242, 3) := by decide +kernel
theorem dX12_persons_18 : decode cX12_persons 18 = .ok (.sipush 318, 3) := by decide +kernel
theorem dX12_persons_21 : decode cX12_persons 21 = .ok (.iload_n 1, 1) := by decide +kernel
theorem dX12_persons_22 : decode cX12_persons 22 = .ok (.iadd, 1) := by decide +kernel
theorem dX12_persons_23 : decode cX12_persons 23 = .ok (.if_icmp .ne 9, 3) := by decide +kernel
theorem dX12_persons_26 : decode cX12_persons 26 = .ok (.aload_n 0, 1) := by decide +kernel
theorem dX12_persons_27 : decode cX12_persons 27 = .ok (.iconst 1, 1) := by decide +kernel
theorem dX12_persons_28 : decode cX12_persons 28 = .ok (.invokevirtual 263, 3) := by decide +kernel
theorem dX12_persons_31 : decode cX12_persons 31 = .ok (.ireturn, 1) := by decide +kernel
theorem dX12_persons_32 : decode cX12_persons 32 = .ok (.aload_n 0, 1) := by decide +kernel
theorem dX12_persons_33 : decode cX12_persons 33 = .ok (.invokevirtual 276, 3) := by decide +kernel
theorem dX12_persons_36 : decode cX12_persons 36 = .ok (.ifCond .ne 5, 3) := by decide +kernel
theorem dX12_persons_39 : decode cX12_persons 39 = .ok (.iconst 0, 1) := by decide +kernel
theorem dX12_persons_40 : decode cX12_persons 40 = .ok (.ireturn, 1) := by decide +kernel
theorem dX12_persons_41 : decode cX12_persons 41 = .ok (.aload_n 0, 1) := by decide +kernel
theorem dX12_persons_42 : decode cX12_persons 42 = .ok (.aload_n 0, 1) := by decide +kernel
theorem dX12_persons_43 : decode cX12_persons 43 = .ok (.getfield 269, 3) := by decide +kernel
theorem dX12_persons_46 : decode cX12_persons 46 = .ok (.putfield 279, 3) := by decide +kernel
theorem dX12_persons_49 : decode cX12_persons 49 = .ok (.aload_n 0, 1) := by decide +kernel
theorem dX12_persons_50 : decode cX12_persons 50 = .ok (.iload_n 1, 1) := by decide +kernel
theorem dX12_persons_51 : decode cX12_persons 51 = .ok (.putfield 269, 3) := by decide +kernel
theorem dX12_persons_54 : decode cX12_persons 54 = .ok (.iconst 1, 1) := by decide +kernel
theorem dX12_persons_55 : decode cX12_persons 55 = .ok (.ireturn, 1) := by decide +kernel
theorem dX12_place_0 : decode cX12_place 0 = .ok (.lload_n 1, 1) := by decide +kernel
theorem dX12_place_1 : decode cX12_place 1 = .ok (.lload_n 1, 1) := by decide +kernel
theorem dX12_place_2 : decode cX12_place 2 = .ok (.bipush 17, 2) := by decide +kernel
theorem dX12_place_4 : decode cX12_place 4 = .ok (.lushr, 1) := by decide +kernel
theorem dX12_place_5 : decode cX12_place 5 = .ok (.lxor, 1) := by decide +kernel
theorem dX12_place_6 : decode cX12_place 6 = .ok (.lload_n 1, 1) := by decide +kernel
theorem dX12_place_7 : decode cX12_place 7 = .ok (.bipush 34, 2) := by decide +kernel
theorem dX12_place_9 : decode cX12_place 9 = .ok (.lushr, 1) := by decide +kernel
theorem dX12_place_10 : decode cX12_place 10 = .ok (.lxor, 1) := by decide +kernel
theorem dX12_place_11 : decode cX12_place 11 = .ok (.ldc2_w 399, 3) := by decide +kernel
theorem dX12_place_14 : decode cX12_place 14 = .ok (.land, 1) := by decide +kernel
theorem dX12_place_15 : decode cX12_place 15 = .ok (.l2i, 1) := by decide +kernel
theorem dX12_place_16 : decode cX12_place 16 = .ok (.istore_n 3, 1) := by decide +kernel
theorem dX12_place_17 : decode cX12_place 17 = .ok (.aload_n 0, 1) := by decide +kernel
theorem dX12_place_18 : decode cX12_place 18 = .ok (.getfield 110, 3) := by decide +kernel
theorem dX12_place_21 : decode cX12_place 21 = .ok (.iload_n 3, 1) := by decide +kernel
theorem dX12_place_22 : decode cX12_place 22 = .ok (.iaload, 1) := by decide +kernel
theorem dX12_place_23 : decode cX12_place 23 = .ok (.iconst (-1), 1) := by decide +kernel
theorem dX12_place_24 : decode cX12_place 24 = .ok (.if_icmp .eq 30, 3) := by decide +kernel
theorem dX12_place_27 : decode cX12_place 27 = .ok (.aload_n 0, 1) := by decide +kernel
theorem dX12_place_28 : decode cX12_place 28 = .ok (.getfield 97, 3) := by decide +kernel
theorem dX12_place_31 : decode cX12_place 31 = .ok (.aload_n 0, 1) := by decide +kernel
theorem dX12_place_32 : decode cX12_place 32 = .ok (.getfield 110, 3) := by decide +kernel
theorem dX12_place_35 : decode cX12_place 35 = .ok (.iload_n 3, 1) := by decide +kernel
theorem dX12_place_36 : decode cX12_place 36 = .ok (.iaload, 1) := by decide +kernel
theorem dX12_place_37 : decode cX12_place 37 = .ok (.laload, 1) := by decide +kernel
theorem dX12_place_38 : decode cX12_place 38 = .ok (.lload_n 1, 1) := by decide +kernel
theorem dX12_place_39 : decode cX12_place 39 = .ok (.lcmp, 1) := by decide +kernel
theorem dX12_place_40 : decode cX12_place 40 = .ok (.ifCond .eq 14, 3) := by decide +kernel
theorem dX12_place_43 : decode cX12_place 43 = .ok (.iload_n 3, 1) := by decide +kernel
theorem dX12_place_44 : decode cX12_place 44 = .ok (.iconst 1, 1) := by decide +kernel
theorem dX12_place_45 : decode cX12_place 45 = .ok (.iadd, 1) := by decide +kernel
theorem dX12_place_46 : decode cX12_place 46 = .ok (.sipush 1023, 3) := by decide +kernel
theorem dX12_place_49 : decode cX12_place 49 = .ok (.iand, 1) := by decide +kernel
theorem dX12_place_50 : decode cX12_place 50 = .ok (.istore_n 3, 1) := by decide +kernel
theorem dX12_place_51 : decode cX12_place 51 = .ok (.goto (-34), 3) := by decide +kernel
theorem dX12_place_54 : decode cX12_place 54 = .ok (.iload_n 3, 1) := by decide +kernel
theorem dX12_place_55 : decode cX12_place 55 = .ok (.ireturn, 1) := by decide +kernel
theorem dX12_plainest_0 : decode cX12_plainest 0 = .ok (.lload_n 1, 1) := by decide +kernel
theorem dX12_plainest_1 : decode cX12_plainest 1 = .ok (.lstore_n 3, 1) := by decide +kernel
theorem dX12_plainest_2 : decode cX12_plainest 2 = .ok (.aload_n 0, 1) := by decide +kernel
theorem dX12_plainest_3 : decode cX12_plainest 3 = .ok (.lload_n 1, 1) := by decide +kernel
theorem dX12_plainest_4 : decode cX12_plainest 4 = .ok (.invokevirtual 174, 3) := by decide +kernel
theorem dX12_plainest_7 : decode cX12_plainest 7 = .ok (.iconst 0, 1) := by decide +kernel
theorem dX12_plainest_8 : decode cX12_plainest 8 = .ok (.istore 5, 2) := by decide +kernel
theorem dX12_plainest_10 : decode cX12_plainest 10 = .ok (.iload 5, 2) := by decide +kernel
theorem dX12_plainest_12 : decode cX12_plainest 12 = .ok (.iconst 3, 1) := by decide +kernel
theorem dX12_plainest_13 : decode cX12_plainest 13 = .ok (.if_icmp .ge 37, 3) := by decide +kernel
theorem dX12_plainest_16 : decode cX12_plainest 16 = .ok (.aload_n 0, 1) := by decide +kernel
theorem dX12_plainest_17 : decode cX12_plainest 17 = .ok (.getfield 119, 3) := by decide +kernel
theorem dX12_plainest_20 : decode cX12_plainest 20 = .ok (.iload 5, 2) := by decide +kernel
theorem dX12_plainest_22 : decode cX12_plainest 22 = .ok (.aload_n 0, 1) := by decide +kernel
theorem dX12_plainest_23 : decode cX12_plainest 23 = .ok (.getfield 13, 3) := by decide +kernel
theorem dX12_plainest_26 : decode cX12_plainest 26 = .ok (.iload 5, 2) := by decide +kernel
theorem dX12_plainest_28 : decode cX12_plainest 28 = .ok (.iaload, 1) := by decide +kernel
theorem dX12_plainest_29 : decode cX12_plainest 29 = .ok (.iastore, 1) := by decide +kernel
theorem dX12_plainest_30 : decode cX12_plainest 30 = .ok (.aload_n 0, 1) := by decide +kernel
theorem dX12_plainest_31 : decode cX12_plainest 31 = .ok (.getfield 125, 3) := by decide +kernel
theorem dX12_plainest_34 : decode cX12_plainest 34 = .ok (.iload 5, 2) := by decide +kernel
theorem dX12_plainest_36 : decode cX12_plainest 36 = .ok (.aload_n 0, 1) := by decide +kernel
theorem dX12_plainest_37 : decode cX12_plainest 37 = .ok (.getfield 20, 3) := by decide +kernel
theorem dX12_plainest_40 : decode cX12_plainest 40 = .ok (.iload 5, 2) := by decide +kernel
theorem dX12_plainest_42 : decode cX12_plainest 42 = .ok (.iaload, 1) := by decide +kernel
theorem dX12_plainest_43 : decode cX12_plainest 43 = .ok (.iastore, 1) := by decide +kernel
theorem dX12_plainest_44 : decode cX12_plainest 44 = .ok (.iinc 5 1, 3) := by decide +kernel
theorem dX12_plainest_47 : decode cX12_plainest 47 = .ok (.goto (-37), 3) := by decide +kernel
theorem dX12_plainest_50 : decode cX12_plainest 50 = .ok (.iconst 0, 1) := by decide +kernel
theorem dX12_plainest_51 : decode cX12_plainest 51 = .ok (.istore 5, 2) := by decide +kernel
theorem dX12_plainest_53 : decode cX12_plainest 53 = .ok (.iload 5, 2) := by decide +kernel
theorem dX12_plainest_55 : decode cX12_plainest 55 = .ok (.bipush 9, 2) := by decide +kernel
theorem dX12_plainest_57 : decode cX12_plainest 57 = .ok (.if_icmp .ge 51, 3) := by decide +kernel
theorem dX12_plainest_60 : decode cX12_plainest 60 = .ok (.aload_n 0, 1) := by decide +kernel
theorem dX12_plainest_61 : decode cX12_plainest 61 = .ok (.getfield 122, 3) := by decide +kernel
theorem dX12_plainest_64 : decode cX12_plainest 64 = .ok (.iload 5, 2) := by decide +kernel
theorem dX12_plainest_66 : decode cX12_plainest 66 = .ok (.aload_n 0, 1) := by decide +kernel
theorem dX12_plainest_67 : decode cX12_plainest 67 = .ok (.getfield 17, 3) := by decide +kernel
theorem dX12_plainest_70 : decode cX12_plainest 70 = .ok (.iload 5, 2) := by decide +kernel
theorem dX12_plainest_72 : decode cX12_plainest 72 = .ok (.iaload, 1) := by decide +kernel
theorem dX12_plainest_73 : decode cX12_plainest 73 = .ok (.iastore, 1) := by decide +kernel
theorem dX12_plainest_74 : decode cX12_plainest 74 = .ok (.aload_n 0, 1) := by decide +kernel
theorem dX12_plainest_75 : decode cX12_plainest 75 = .ok (.getfield 128, 3) := by decide +kernel
theorem dX12_plainest_78 : decode cX12_plainest 78 = .ok (.iload 5, 2) := by decide +kernel
theorem dX12_plainest_80 : decode cX12_plainest 80 = .ok (.aload_n 0, 1) := by decide +kernel
theorem dX12_plainest_81 : decode cX12_plainest 81 = .ok (.getfield 23, 3) := by decide +kernel
theorem dX12_plainest_84 : decode cX12_plainest 84 = .ok (.iload 5, 2) := by decide +kernel
theorem dX12_plainest_86 : decode cX12_plainest 86 = .ok (.baload, 1) := by decide +kernel
theorem dX12_plainest_87 : decode cX12_plainest 87 = .ok (.bastore, 1) := by decide +kernel
theorem dX12_plainest_88 : decode cX12_plainest 88 = .ok (.aload_n 0, 1) := by decide +kernel
theorem dX12_plainest_89 : decode cX12_plainest 89 = .ok (.getfield 131, 3) := by decide +kernel
theorem dX12_plainest_92 : decode cX12_plainest 92 = .ok (.iload 5, 2) := by decide +kernel
theorem dX12_plainest_94 : decode cX12_plainest 94 = .ok (.aload_n 0, 1) := by decide +kernel
theorem dX12_plainest_95 : decode cX12_plainest 95 = .ok (.getfield 27, 3) := by decide +kernel
theorem dX12_plainest_98 : decode cX12_plainest 98 = .ok (.iload 5, 2) := by decide +kernel
theorem dX12_plainest_100 : decode cX12_plainest 100 = .ok (.baload, 1) := by decide +kernel
theorem dX12_plainest_101 : decode cX12_plainest 101 = .ok (.bastore, 1) := by decide +kernel
theorem dX12_plainest_102 : decode cX12_plainest 102 = .ok (.iinc 5 1, 3) := by decide +kernel
theorem dX12_plainest_105 : decode cX12_plainest 105 = .ok (.goto (-52), 3) := by decide +kernel
theorem dX12_plainest_108 : decode cX12_plainest 108 = .ok (.iconst 0, 1) := by decide +kernel
theorem dX12_plainest_109 : decode cX12_plainest 109 = .ok (.istore 5, 2) := by decide +kernel
theorem dX12_plainest_111 : decode cX12_plainest 111 = .ok (.iload 5, 2) := by decide +kernel
theorem dX12_plainest_113 : decode cX12_plainest 113 = .ok (.bipush 36, 2) := by decide +kernel
theorem dX12_plainest_115 : decode cX12_plainest 115 = .ok (.if_icmp .ge 198, 3) := by decide +kernel
theorem dX12_plainest_118 : decode cX12_plainest 118 = .ok (.iconst 0, 1) := by decide +kernel
theorem dX12_plainest_119 : decode cX12_plainest 119 = .ok (.istore 6, 2) := by decide +kernel
theorem dX12_plainest_121 : decode cX12_plainest 121 = .ok (.iload 6, 2) := by decide +kernel
theorem dX12_plainest_123 : decode cX12_plainest 123 = .ok (.iconst 3, 1) := by decide +kernel
theorem dX12_plainest_124 : decode cX12_plainest 124 = .ok (.if_icmp .ge 163, 3) := by decide +kernel
theorem dX12_plainest_127 : decode cX12_plainest 127 = .ok (.aload_n 0, 1) := by decide +kernel
theorem dX12_plainest_128 : decode cX12_plainest 128 = .ok (.getfield 13, 3) := by decide +kernel
theorem dX12_plainest_131 : decode cX12_plainest 131 = .ok (.aload_n 0, 1) := by decide +kernel
theorem dX12_plainest_132 : decode cX12_plainest 132 = .ok (.iload 5, 2) := by decide +kernel
theorem dX12_plainest_134 : decode cX12_plainest 134 = .ok (.bipush 6, 2) := by decide +kernel
theorem dX12_plainest_136 : decode cX12_plainest 136 = .ok (.idiv, 1) := by decide +kernel
theorem dX12_plainest_137 : decode cX12_plainest 137 = .ok (.iload 6, 2) := by decide +kernel
theorem dX12_plainest_139 : decode cX12_plainest 139 = .ok (.invokevirtual 445, 3) := by decide +kernel
theorem dX12_plainest_142 : decode cX12_plainest 142 = .ok (.aload_n 0, 1) := by decide +kernel
theorem dX12_plainest_143 : decode cX12_plainest 143 = .ok (.getfield 119, 3) := by decide +kernel
theorem dX12_plainest_146 : decode cX12_plainest 146 = .ok (.iload 6, 2) := by decide +kernel
theorem dX12_plainest_148 : decode cX12_plainest 148 = .ok (.iaload, 1) := by decide +kernel
theorem dX12_plainest_149 : decode cX12_plainest 149 = .ok (.iastore, 1) := by decide +kernel
theorem dX12_plainest_150 : decode cX12_plainest 150 = .ok (.aload_n 0, 1) := by decide +kernel
theorem dX12_plainest_151 : decode cX12_plainest 151 = .ok (.getfield 20, 3) := by decide +kernel
theorem dX12_plainest_154 : decode cX12_plainest 154 = .ok (.aload_n 0, 1) := by decide +kernel
theorem dX12_plainest_155 : decode cX12_plainest 155 = .ok (.iload 5, 2) := by decide +kernel
theorem dX12_plainest_157 : decode cX12_plainest 157 = .ok (.bipush 6, 2) := by decide +kernel
theorem dX12_plainest_159 : decode cX12_plainest 159 = .ok (.irem, 1) := by decide +kernel
theorem dX12_plainest_160 : decode cX12_plainest 160 = .ok (.iload 6, 2) := by decide +kernel
theorem dX12_plainest_162 : decode cX12_plainest 162 = .ok (.invokevirtual 445, 3) := by decide +kernel
theorem dX12_plainest_165 : decode cX12_plainest 165 = .ok (.aload_n 0, 1) := by decide +kernel
theorem dX12_plainest_166 : decode cX12_plainest 166 = .ok (.iload 5, 2) := by decide +kernel
theorem dX12_plainest_168 : decode cX12_plainest 168 = .ok (.bipush 6, 2) := by decide +kernel
theorem dX12_plainest_170 : decode cX12_plainest 170 = .ok (.idiv, 1) := by decide +kernel
theorem dX12_plainest_171 : decode cX12_plainest 171 = .ok (.aload_n 0, 1) := by decide +kernel
theorem dX12_plainest_172 : decode cX12_plainest 172 = .ok (.getfield 125, 3) := by decide +kernel
theorem dX12_plainest_175 : decode cX12_plainest 175 = .ok (.iload 6, 2) := by decide +kernel
theorem dX12_plainest_177 : decode cX12_plainest 177 = .ok (.iaload, 1) := by decide +kernel
theorem dX12_plainest_178 : decode cX12_plainest 178 = .ok (.invokevirtual 445, 3) := by decide +kernel
theorem dX12_plainest_181 : decode cX12_plainest 181 = .ok (.iastore, 1) := by decide +kernel
theorem dX12_plainest_182 : decode cX12_plainest 182 = .ok (.iconst 0, 1) := by decide +kernel
theorem dX12_plainest_183 : decode cX12_plainest 183 = .ok (.istore 7, 2) := by decide +kernel
theorem dX12_plainest_185 : decode cX12_plainest 185 = .ok (.iload 7, 2) := by decide +kernel
theorem dX12_plainest_187 : decode cX12_plainest 187 = .ok (.iconst 3, 1) := by decide +kernel
theorem dX12_plainest_188 : decode cX12_plainest 188 = .ok (.if_icmp .ge 93, 3) := by decide +kernel
theorem dX12_plainest_191 : decode cX12_plainest 191 = .ok (.iconst 3, 1) := by decide +kernel
theorem dX12_plainest_192 : decode cX12_plainest 192 = .ok (.aload_n 0, 1) := by decide +kernel
theorem dX12_plainest_193 : decode cX12_plainest 193 = .ok (.iload 5, 2) := by decide +kernel
theorem dX12_plainest_195 : decode cX12_plainest 195 = .ok (.bipush 6, 2) := by decide +kernel
theorem dX12_plainest_197 : decode cX12_plainest 197 = .ok (.idiv, 1) := by decide +kernel
theorem dX12_plainest_198 : decode cX12_plainest 198 = .ok (.iload 6, 2) := by decide +kernel
theorem dX12_plainest_200 : decode cX12_plainest 200 = .ok (.invokevirtual 445, 3) := by decide +kernel
theorem dX12_plainest_203 : decode cX12_plainest 203 = .ok (.imul, 1) := by decide +kernel
theorem dX12_plainest_204 : decode cX12_plainest 204 = .ok (.aload_n 0, 1) := by decide +kernel
theorem dX12_plainest_205 : decode cX12_plainest 205 = .ok (.iload 5, 2) := by decide +kernel
theorem dX12_plainest_207 : decode cX12_plainest 207 = .ok (.bipush 6, 2) := by decide +kernel
theorem dX12_plainest_209 : decode cX12_plainest 209 = .ok (.idiv, 1) := by decide +kernel
theorem dX12_plainest_210 : decode cX12_plainest 210 = .ok (.iload 7, 2) := by decide +kernel
theorem dX12_plainest_212 : decode cX12_plainest 212 = .ok (.invokevirtual 445, 3) := by decide +kernel
theorem dX12_plainest_215 : decode cX12_plainest 215 = .ok (.iadd, 1) := by decide +kernel
theorem dX12_plainest_216 : decode cX12_plainest 216 = .ok (.istore 8, 2) := by decide +kernel
theorem dX12_plainest_218 : decode cX12_plainest 218 = .ok (.aload_n 0, 1) := by decide +kernel
theorem dX12_plainest_219 : decode cX12_plainest 219 = .ok (.getfield 17, 3) := by decide +kernel
theorem dX12_plainest_222 : decode cX12_plainest 222 = .ok (.iload 8, 2) := by decide +kernel
theorem dX12_plainest_224 : decode cX12_plainest 224 = .ok (.aload_n 0, 1) := by decide +kernel
theorem dX12_plainest_225 : decode cX12_plainest 225 = .ok (.getfield 122, 3) := by decide +kernel
theorem dX12_plainest_228 : decode cX12_plainest 228 = .ok (.iconst 3, 1) := by decide +kernel
theorem dX12_plainest_229 : decode cX12_plainest 229 = .ok (.iload 6, 2) := by decide +kernel
theorem dX12_plainest_231 : decode cX12_plainest 231 = .ok (.imul, 1) := by decide +kernel
theorem dX12_plainest_232 : decode cX12_plainest 232 = .ok (.iload 7, 2) := by decide +kernel
theorem dX12_plainest_234 : decode cX12_plainest 234 = .ok (.iadd, 1) := by decide +kernel
theorem dX12_plainest_235 : decode cX12_plainest 235 = .ok (.iaload, 1) := by decide +kernel
theorem dX12_plainest_236 : decode cX12_plainest 236 = .ok (.iastore, 1) := by decide +kernel
theorem dX12_plainest_237 : decode cX12_plainest 237 = .ok (.aload_n 0, 1) := by decide +kernel
theorem dX12_plainest_238 : decode cX12_plainest 238 = .ok (.getfield 23, 3) := by decide +kernel
theorem dX12_plainest_241 : decode cX12_plainest 241 = .ok (.iload 8, 2) := by decide +kernel
theorem dX12_plainest_243 : decode cX12_plainest 243 = .ok (.aload_n 0, 1) := by decide +kernel
theorem dX12_plainest_244 : decode cX12_plainest 244 = .ok (.getfield 128, 3) := by decide +kernel
theorem dX12_plainest_247 : decode cX12_plainest 247 = .ok (.iconst 3, 1) := by decide +kernel
theorem dX12_plainest_248 : decode cX12_plainest 248 = .ok (.iload 6, 2) := by decide +kernel
theorem dX12_plainest_250 : decode cX12_plainest 250 = .ok (.imul, 1) := by decide +kernel
theorem dX12_plainest_251 : decode cX12_plainest 251 = .ok (.iload 7, 2) := by decide +kernel
theorem dX12_plainest_253 : decode cX12_plainest 253 = .ok (.iadd, 1) := by decide +kernel
theorem dX12_plainest_254 : decode cX12_plainest 254 = .ok (.baload, 1) := by decide +kernel
theorem dX12_plainest_255 : decode cX12_plainest 255 = .ok (.bastore, 1) := by decide +kernel
theorem dX12_plainest_256 : decode cX12_plainest 256 = .ok (.aload_n 0, 1) := by decide +kernel
theorem dX12_plainest_257 : decode cX12_plainest 257 = .ok (.getfield 27, 3) := by decide +kernel
theorem dX12_plainest_260 : decode cX12_plainest 260 = .ok (.iload 8, 2) := by decide +kernel
theorem dX12_plainest_262 : decode cX12_plainest 262 = .ok (.aload_n 0, 1) := by decide +kernel
theorem dX12_plainest_263 : decode cX12_plainest 263 = .ok (.getfield 131, 3) := by decide +kernel
theorem dX12_plainest_266 : decode cX12_plainest 266 = .ok (.iconst 3, 1) := by decide +kernel
theorem dX12_plainest_267 : decode cX12_plainest 267 = .ok (.iload 6, 2) := by decide +kernel
theorem dX12_plainest_269 : decode cX12_plainest 269 = .ok (.imul, 1) := by decide +kernel
theorem dX12_plainest_270 : decode cX12_plainest 270 = .ok (.iload 7, 2) := by decide +kernel
theorem dX12_plainest_272 : decode cX12_plainest 272 = .ok (.iadd, 1) := by decide +kernel
theorem dX12_plainest_273 : decode cX12_plainest 273 = .ok (.baload, 1) := by decide +kernel
theorem dX12_plainest_274 : decode cX12_plainest 274 = .ok (.bastore, 1) := by decide +kernel
theorem dX12_plainest_275 : decode cX12_plainest 275 = .ok (.iinc 7 1, 3) := by decide +kernel
theorem dX12_plainest_278 : decode cX12_plainest 278 = .ok (.goto (-93), 3) := by decide +kernel
theorem dX12_plainest_281 : decode cX12_plainest 281 = .ok (.iinc 6 1, 3) := by decide +kernel
theorem dX12_plainest_284 : decode cX12_plainest 284 = .ok (.goto (-163), 3) := by decide +kernel
theorem dX12_plainest_287 : decode cX12_plainest 287 = .ok (.aload_n 0, 1) := by decide +kernel
theorem dX12_plainest_288 : decode cX12_plainest 288 = .ok (.invokevirtual 149, 3) := by decide +kernel
theorem dX12_plainest_291 : decode cX12_plainest 291 = .ok (.lstore 6, 2) := by decide +kernel
theorem dX12_plainest_293 : decode cX12_plainest 293 = .ok (.lload 6, 2) := by decide +kernel
theorem dX12_plainest_295 : decode cX12_plainest 295 = .ok (.lload_n 3, 1) := by decide +kernel
theorem dX12_plainest_296 : decode cX12_plainest 296 = .ok (.lcmp, 1) := by decide +kernel
theorem dX12_plainest_297 : decode cX12_plainest 297 = .ok (.ifCond .ge 8, 3) := by decide +kernel
theorem dX12_plainest_300 : decode cX12_plainest 300 = .ok (.lload 6, 2) := by decide +kernel
theorem dX12_plainest_302 : decode cX12_plainest 302 = .ok (.goto 4, 3) := by decide +kernel
theorem dX12_plainest_305 : decode cX12_plainest 305 = .ok (.lload_n 3, 1) := by decide +kernel
theorem dX12_plainest_306 : decode cX12_plainest 306 = .ok (.lstore_n 3, 1) := by decide +kernel
theorem dX12_plainest_307 : decode cX12_plainest 307 = .ok (.iinc 5 1, 3) := by decide +kernel
theorem dX12_plainest_310 : decode cX12_plainest 310 = .ok (.goto (-199), 3) := by decide +kernel
theorem dX12_plainest_313 : decode cX12_plainest 313 = .ok (.lload_n 3, 1) := by decide +kernel
theorem dX12_plainest_314 : decode cX12_plainest 314 = .ok (.lreturn, 1) := by decide +kernel
theorem dX12_product_0 : decode cX12_product 0 = .ok (.aload_n 0, 1) := by decide +kernel
theorem dX12_product_1 : decode cX12_product 1 = .ok (.invokevirtual 292, 3) := by decide +kernel
theorem dX12_product_4 : decode cX12_product 4 = .ok (.ifCond .ne 5, 3) := by decide +kernel
theorem dX12_product_7 : decode cX12_product 7 = .ok (.iconst 0, 1) := by decide +kernel
theorem dX12_product_8 : decode cX12_product 8 = .ok (.ireturn, 1) := by decide +kernel
theorem dX12_product_9 : decode cX12_product 9 = .ok (.aload_n 0, 1) := by decide +kernel
theorem dX12_product_10 : decode cX12_product 10 = .ok (.getfield 242, 3) := by decide +kernel
theorem dX12_product_13 : decode cX12_product 13 = .ok (.bipush 42, 2) := by decide +kernel
theorem dX12_product_15 : decode cX12_product 15 = .ok (.if_icmp .ne 26, 3) := by decide +kernel
theorem dX12_product_18 : decode cX12_product 18 = .ok (.aload_n 0, 1) := by decide +kernel
theorem dX12_product_19 : decode cX12_product 19 = .ok (.invokevirtual 266, 3) := by decide +kernel
theorem dX12_product_22 : decode cX12_product 22 = .ok (.aload_n 0, 1) := by decide +kernel
theorem dX12_product_23 : decode cX12_product 23 = .ok (.invokevirtual 292, 3) := by decide +kernel
theorem dX12_product_26 : decode cX12_product 26 = .ok (.ifCond .ne 5, 3) := by decide +kernel
theorem dX12_product_29 : decode cX12_product 29 = .ok (.iconst 0, 1) := by decide +kernel
theorem dX12_product_30 : decode cX12_product 30 = .ok (.ireturn, 1) := by decide +kernel
theorem dX12_product_31 : decode cX12_product 31 = .ok (.aload_n 0, 1) := by decide +kernel
theorem dX12_product_32 : decode cX12_product 32 = .ok (.bipush 10, 2) := by decide +kernel
theorem dX12_product_34 : decode cX12_product 34 = .ok (.iconst 0, 1) := by decide +kernel
theorem dX12_product_35 : decode cX12_product 35 = .ok (.invokevirtual 288, 3) := by decide +kernel
theorem dX12_product_38 : decode cX12_product 38 = .ok (.goto (-29), 3) := by decide +kernel
theorem dX12_product_41 : decode cX12_product 41 = .ok (.iconst 1, 1) := by decide +kernel
theorem dX12_product_42 : decode cX12_product 42 = .ok (.ireturn, 1) := by decide +kernel
theorem dX12_put_0 : decode cX12_put 0 = .ok (.iload_n 1, 1) := by decide +kernel
theorem dX12_put_1 : decode cX12_put 1 = .ok (.invokestatic 452, 3) := by decide +kernel
theorem dX12_put_4 : decode cX12_put 4 = .ok (.ifCond .eq 21, 3) := by decide +kernel
theorem dX12_put_7 : decode cX12_put 7 = .ok (.iload_n 2, 1) := by decide +kernel
theorem dX12_put_8 : decode cX12_put 8 = .ok (.invokestatic 455, 3) := by decide +kernel
theorem dX12_put_11 : decode cX12_put 11 = .ok (.ifCond .eq 14, 3) := by decide +kernel
theorem dX12_put_14 : decode cX12_put 14 = .ok (.aload_n 0, 1) := by decide +kernel
theorem dX12_put_15 : decode cX12_put 15 = .ok (.getfield 140, 3) := by decide +kernel
theorem dX12_put_18 : decode cX12_put 18 = .ok (.iload_n 1, 1) := by decide +kernel
theorem dX12_put_19 : decode cX12_put 19 = .ok (.iaload, 1) := by decide +kernel
theorem dX12_put_20 : decode cX12_put 20 = .ok (.bipush 12, 2) := by decide +kernel
theorem dX12_put_22 : decode cX12_put 22 = .ok (.if_icmp .ne 5, 3) := by decide +kernel
theorem dX12_put_25 : decode cX12_put 25 = .ok (.iconst (-1), 1) := by decide +kernel
theorem dX12_put_26 : decode cX12_put 26 = .ok (.ireturn, 1) := by decide +kernel
theorem dX12_put_27 : decode cX12_put 27 = .ok (.aload_n 0, 1) := by decide +kernel
theorem dX12_put_28 : decode cX12_put 28 = .ok (.getfield 137, 3) := by decide +kernel
theorem dX12_put_31 : decode cX12_put 31 = .ok (.bipush 12, 2) := by decide +kernel
theorem dX12_put_33 : decode cX12_put 33 = .ok (.iload_n 1, 1) := by decide +kernel
theorem dX12_put_34 : decode cX12_put 34 = .ok (.imul, 1) := by decide +kernel
theorem dX12_put_35 : decode cX12_put 35 = .ok (.aload_n 0, 1) := by decide +kernel
theorem dX12_put_36 : decode cX12_put 36 = .ok (.getfield 140, 3) := by decide +kernel
theorem dX12_put_39 : decode cX12_put 39 = .ok (.iload_n 1, 1) := by decide +kernel
theorem dX12_put_40 : decode cX12_put 40 = .ok (.iaload, 1) := by decide +kernel
theorem dX12_put_41 : decode cX12_put 41 = .ok (.iadd, 1) := by decide +kernel
theorem dX12_put_42 : decode cX12_put 42 = .ok (.iload_n 2, 1) := by decide +kernel
theorem dX12_put_43 : decode cX12_put 43 = .ok (.iastore, 1) := by decide +kernel
theorem dX12_put_44 : decode cX12_put 44 = .ok (.aload_n 0, 1) := by decide +kernel
theorem dX12_put_45 : decode cX12_put 45 = .ok (.getfield 140, 3) := by decide +kernel
theorem dX12_put_48 : decode cX12_put 48 = .ok (.iload_n 1, 1) := by decide +kernel
theorem dX12_put_49 : decode cX12_put 49 = .ok (.dup2, 1) := by decide +kernel
theorem dX12_put_50 : decode cX12_put 50 = .ok (.iaload, 1) := by decide +kernel
theorem dX12_put_51 : decode cX12_put 51 = .ok (.iconst 1, 1) := by decide +kernel
theorem dX12_put_52 : decode cX12_put 52 = .ok (.iadd, 1) := by decide +kernel
theorem dX12_put_53 : decode cX12_put 53 = .ok (.iastore, 1) := by decide +kernel
theorem dX12_put_54 : decode cX12_put 54 = .ok (.aload_n 0, 1) := by decide +kernel
theorem dX12_put_55 : decode cX12_put 55 = .ok (.getfield 140, 3) := by decide +kernel
theorem dX12_put_58 : decode cX12_put 58 = .ok (.iload_n 1, 1) := by decide +kernel
theorem dX12_put_59 : decode cX12_put 59 = .ok (.iaload, 1) := by decide +kernel
theorem dX12_put_60 : decode cX12_put 60 = .ok (.ireturn, 1) := by decide +kernel
theorem dX12_reads_0 : decode cX12_reads 0 = .ok (.aload_n 0, 1) := by decide +kernel
theorem dX12_reads_1 : decode cX12_reads 1 = .ok (.invokevirtual 339, 3) := by decide +kernel
theorem dX12_reads_4 : decode cX12_reads 4 = .ok (.aload_n 0, 1) := by decide +kernel
theorem dX12_reads_5 : decode cX12_reads 5 = .ok (.invokevirtual 327, 3) := by decide +kernel
theorem dX12_reads_8 : decode cX12_reads 8 = .ok (.ifCond .eq 22, 3) := by decide +kernel
theorem dX12_reads_11 : decode cX12_reads 11 = .ok (.aload_n 0, 1) := by decide +kernel
theorem dX12_reads_12 : decode cX12_reads 12 = .ok (.getfield 242, 3) := by decide +kernel
theorem dX12_reads_15 : decode cX12_reads 15 = .ok (.ifCond .eq 11, 3) := by decide +kernel
theorem dX12_reads_18 : decode cX12_reads 18 = .ok (.aload_n 0, 1) := by decide +kernel
theorem dX12_reads_19 : decode cX12_reads 19 = .ok (.iconst 1, 1) := by decide +kernel
theorem dX12_reads_20 : decode cX12_reads 20 = .ok (.invokevirtual 263, 3) := by decide +kernel
theorem dX12_reads_23 : decode cX12_reads 23 = .ok (.ifCond .eq 7, 3) := by decide +kernel
theorem dX12_reads_26 : decode cX12_reads 26 = .ok (.iconst 1, 1) := by decide +kernel
theorem dX12_reads_27 : decode cX12_reads 27 = .ok (.goto 4, 3) := by decide +kernel
theorem dX12_reads_30 : decode cX12_reads 30 = .ok (.iconst 0, 1) := by decide +kernel
theorem dX12_reads_31 : decode cX12_reads 31 = .ok (.istore_n 1, 1) := by decide +kernel
theorem dX12_reads_32 : decode cX12_reads 32 = .ok (.aload_n 0, 1) := by decide +kernel
theorem dX12_reads_33 : decode cX12_reads 33 = .ok (.invokevirtual 336, 3) := by decide +kernel
theorem dX12_reads_36 : decode cX12_reads 36 = .ok (.iload_n 1, 1) := by decide +kernel
theorem dX12_reads_37 : decode cX12_reads 37 = .ok (.ireturn, 1) := by decide +kernel
theorem dX12_renamed_0 : decode cX12_renamed 0 = .ok (.iload_n 2, 1) := by decide +kernel
theorem dX12_renamed_1 : decode cX12_renamed 1 = .ok (.iconst 3, 1) := by decide +kernel
theorem dX12_renamed_2 : decode cX12_renamed 2 = .ok (.if_icmp .ne 7, 3) := by decide +kernel
theorem dX12_renamed_5 : decode cX12_renamed 5 = .ok (.iconst 3, 1) := by decide +kernel
theorem dX12_renamed_6 : decode cX12_renamed 6 = .ok (.goto 13, 3) := by decide +kernel
theorem dX12_renamed_9 : decode cX12_renamed 9 = .ok (.aload_n 0, 1) := by decide +kernel
theorem dX12_renamed_10 : decode cX12_renamed 10 = .ok (.getfield 116, 3) := by decide +kernel
theorem dX12_renamed_13 : decode cX12_renamed 13 = .ok (.iconst 3, 1) := by decide +kernel
theorem dX12_renamed_14 : decode cX12_renamed 14 = .ok (.iload_n 1, 1) := by decide +kernel
theorem dX12_renamed_15 : decode cX12_renamed 15 = .ok (.imul, 1) := by decide +kernel
theorem dX12_renamed_16 : decode cX12_renamed 16 = .ok (.iload_n 2, 1) := by decide +kernel
theorem dX12_renamed_17 : decode cX12_renamed 17 = .ok (.iadd, 1) := by decide +kernel
theorem dX12_renamed_18 : decode cX12_renamed 18 = .ok (.iaload, 1) := by decide +kernel
theorem dX12_renamed_19 : decode cX12_renamed 19 = .ok (.ireturn, 1) := by decide +kernel
theorem dX12_renamedCode_0 : decode cX12_renamedCode 0 = .ok (.iload_n 2, 1) := by decide +kernel
theorem dX12_renamedCode_1 : decode cX12_renamedCode 1 = .ok (.bipush 64, 2) := by decide +kernel
theorem dX12_renamedCode_3 : decode cX12_renamedCode 3 = .ok (.idiv, 1) := by decide +kernel
theorem dX12_renamedCode_4 : decode cX12_renamedCode 4 = .ok (.bipush 64, 2) := by decide +kernel
theorem dX12_renamedCode_6 : decode cX12_renamedCode 6 = .ok (.imul, 1) := by decide +kernel
theorem dX12_renamedCode_7 : decode cX12_renamedCode 7 = .ok (.bipush 16, 2) := by decide +kernel
theorem dX12_renamedCode_9 : decode cX12_renamedCode 9 = .ok (.aload_n 0, 1) := by decide +kernel
theorem dX12_renamedCode_10 : decode cX12_renamedCode 10 = .ok (.iload_n 1, 1) := by decide +kernel
theorem dX12_renamedCode_11 : decode cX12_renamedCode 11 = .ok (.bipush 6, 2) := by decide +kernel
theorem dX12_renamedCode_13 : decode cX12_renamedCode 13 = .ok (.idiv, 1) := by decide +kernel
theorem dX12_renamedCode_14 : decode cX12_renamedCode 14 = .ok (.iload_n 2, 1) := by decide +kernel
theorem dX12_renamedCode_15 : decode cX12_renamedCode 15 = .ok (.bipush 16, 2) := by decide +kernel
theorem dX12_renamedCode_17 : decode cX12_renamedCode 17 = .ok (.idiv, 1) := by decide +kernel
theorem dX12_renamedCode_18 : decode cX12_renamedCode 18 = .ok (.iconst 4, 1) := by decide +kernel
theorem dX12_renamedCode_19 : decode cX12_renamedCode 19 = .ok (.irem, 1) := by decide +kernel
theorem dX12_renamedCode_20 : decode cX12_renamedCode 20 = .ok (.invokevirtual 445, 3) := by decide +kernel
theorem dX12_renamedCode_23 : decode cX12_renamedCode 23 = .ok (.imul, 1) := by decide +kernel
theorem dX12_renamedCode_24 : decode cX12_renamedCode 24 = .ok (.iadd, 1) := by decide +kernel
theorem dX12_renamedCode_25 : decode cX12_renamedCode 25 = .ok (.iconst 4, 1) := by decide +kernel
theorem dX12_renamedCode_26 : decode cX12_renamedCode 26 = .ok (.aload_n 0, 1) := by decide +kernel
theorem dX12_renamedCode_27 : decode cX12_renamedCode 27 = .ok (.iload_n 1, 1) := by decide +kernel
theorem dX12_renamedCode_28 : decode cX12_renamedCode 28 = .ok (.bipush 6, 2) := by decide +kernel
theorem dX12_renamedCode_30 : decode cX12_renamedCode 30 = .ok (.idiv, 1) := by decide +kernel
theorem dX12_renamedCode_31 : decode cX12_renamedCode 31 = .ok (.iload_n 2, 1) := by decide +kernel
theorem dX12_renamedCode_32 : decode cX12_renamedCode 32 = .ok (.iconst 4, 1) := by decide +kernel
theorem dX12_renamedCode_33 : decode cX12_renamedCode 33 = .ok (.idiv, 1) := by decide +kernel
theorem dX12_renamedCode_34 : decode cX12_renamedCode 34 = .ok (.iconst 4, 1) := by decide +kernel
theorem dX12_renamedCode_35 : decode cX12_renamedCode 35 = .ok (.irem, 1) := by decide +kernel
theorem dX12_renamedCode_36 : decode cX12_renamedCode 36 = .ok (.invokevirtual 445, 3) := by decide +kernel
theorem dX12_renamedCode_39 : decode cX12_renamedCode 39 = .ok (.imul, 1) := by decide +kernel
theorem dX12_renamedCode_40 : decode cX12_renamedCode 40 = .ok (.iadd, 1) := by decide +kernel
theorem dX12_renamedCode_41 : decode cX12_renamedCode 41 = .ok (.aload_n 0, 1) := by decide +kernel
theorem dX12_renamedCode_42 : decode cX12_renamedCode 42 = .ok (.iload_n 1, 1) := by decide +kernel
theorem dX12_renamedCode_43 : decode cX12_renamedCode 43 = .ok (.bipush 6, 2) := by decide +kernel
theorem dX12_renamedCode_45 : decode cX12_renamedCode 45 = .ok (.irem, 1) := by decide +kernel
theorem dX12_renamedCode_46 : decode cX12_renamedCode 46 = .ok (.iload_n 2, 1) := by decide +kernel
theorem dX12_renamedCode_47 : decode cX12_renamedCode 47 = .ok (.iconst 4, 1) := by decide +kernel
theorem dX12_renamedCode_48 : decode cX12_renamedCode 48 = .ok (.irem, 1) := by decide +kernel
theorem dX12_renamedCode_49 : decode cX12_renamedCode 49 = .ok (.invokevirtual 445, 3) := by decide +kernel
theorem dX12_renamedCode_52 : decode cX12_renamedCode 52 = .ok (.iadd, 1) := by decide +kernel
theorem dX12_renamedCode_53 : decode cX12_renamedCode 53 = .ok (.ireturn, 1) := by decide +kernel
theorem dX12_searches_0 : decode cX12_searches 0 = .ok (.iconst 0, 1) := by decide +kernel
theorem dX12_searches_1 : decode cX12_searches 1 = .ok (.istore 6, 2) := by decide +kernel
theorem dX12_searches_3 : decode cX12_searches 3 = .ok (.iload 6, 2) := by decide +kernel
theorem dX12_searches_5 : decode cX12_searches 5 = .ok (.aload_n 0, 1) := by decide +kernel
theorem dX12_searches_6 : decode cX12_searches 6 = .ok (.getfield 405, 3) := by decide +kernel
theorem dX12_searches_9 : decode cX12_searches 9 = .ok (.if_icmp .ge 22, 3) := by decide +kernel
theorem dX12_searches_12 : decode cX12_searches 12 = .ok (.aload_n 0, 1) := by decide +kernel
theorem dX12_searches_13 : decode cX12_searches 13 = .ok (.getfield 110, 3) := by decide +kernel
theorem dX12_searches_16 : decode cX12_searches 16 = .ok (.aload_n 0, 1) := by decide +kernel
theorem dX12_searches_17 : decode cX12_searches 17 = .ok (.getfield 113, 3) := by decide +kernel
theorem dX12_searches_20 : decode cX12_searches 20 = .ok (.iload 6, 2) := by decide +kernel
theorem dX12_searches_22 : decode cX12_searches 22 = .ok (.iaload, 1) := by decide +kernel
theorem dX12_searches_23 : decode cX12_searches 23 = .ok (.iconst (-1), 1) := by decide +kernel
theorem dX12_searches_24 : decode cX12_searches 24 = .ok (.iastore, 1) := by decide +kernel
theorem dX12_searches_25 : decode cX12_searches 25 = .ok (.iinc 6 1, 3) := by decide +kernel
theorem dX12_searches_28 : decode cX12_searches 28 = .ok (.goto (-25), 3) := by decide +kernel
theorem dX12_searches_31 : decode cX12_searches 31 = .ok (.aload_n 0, 1) := by decide +kernel
theorem dX12_searches_32 : decode cX12_searches 32 = .ok (.iconst 0, 1) := by decide +kernel
theorem dX12_searches_33 : decode cX12_searches 33 = .ok (.putfield 405, 3) := by decide +kernel
theorem dX12_searches_36 : decode cX12_searches 36 = .ok (.aload_n 0, 1) := by decide +kernel
theorem dX12_searches_37 : decode cX12_searches 37 = .ok (.iconst 0, 1) := by decide +kernel
theorem dX12_searches_38 : decode cX12_searches 38 = .ok (.putfield 408, 3) := by decide +kernel
theorem dX12_searches_41 : decode cX12_searches 41 = .ok (.aload_n 0, 1) := by decide +kernel
theorem dX12_searches_42 : decode cX12_searches 42 = .ok (.iconst (-1), 1) := by decide +kernel
theorem dX12_searches_43 : decode cX12_searches 43 = .ok (.putfield 411, 3) := by decide +kernel
theorem dX12_searches_46 : decode cX12_searches 46 = .ok (.aload_n 0, 1) := by decide +kernel
theorem dX12_searches_47 : decode cX12_searches 47 = .ok (.aload_n 0, 1) := by decide +kernel
theorem dX12_searches_48 : decode cX12_searches 48 = .ok (.getfield 153, 3) := by decide +kernel
theorem dX12_searches_51 : decode cX12_searches 51 = .ok (.iconst (-1), 1) := by decide +kernel
theorem dX12_searches_52 : decode cX12_searches 52 = .ok (.iconst (-1), 1) := by decide +kernel
theorem dX12_searches_53 : decode cX12_searches 53 = .ok (.invokevirtual 414, 3) := by decide +kernel
theorem dX12_searches_56 : decode cX12_searches 56 = .ok (.iload_n 1, 1) := by decide +kernel
theorem dX12_searches_57 : decode cX12_searches 57 = .ok (.iconst (-1), 1) := by decide +kernel
theorem dX12_searches_58 : decode cX12_searches 58 = .ok (.if_icmp .eq 20, 3) := by decide +kernel
theorem dX12_searches_61 : decode cX12_searches 61 = .ok (.aload_n 0, 1) := by decide +kernel
theorem dX12_searches_62 : decode cX12_searches 62 = .ok (.aload_n 0, 1) := by decide +kernel
theorem dX12_searches_63 : decode cX12_searches 63 = .ok (.getfield 153, 3) := by decide +kernel
theorem dX12_searches_66 : decode cX12_searches 66 = .ok (.iload_n 1, 1) := by decide +kernel
theorem dX12_searches_67 : decode cX12_searches 67 = .ok (.invokevirtual 418, 3) := by decide +kernel
theorem dX12_searches_70 : decode cX12_searches 70 = .ok (.ifCond .eq 8, 3) := by decide +kernel
theorem dX12_searches_73 : decode cX12_searches 73 = .ok (.aload_n 0, 1) := by decide +kernel
theorem dX12_searches_74 : decode cX12_searches 74 = .ok (.iconst 0, 1) := by decide +kernel
theorem dX12_searches_75 : decode cX12_searches 75 = .ok (.putfield 411, 3) := by decide +kernel
theorem dX12_searches_78 : decode cX12_searches 78 = .ok (.iconst 0, 1) := by decide +kernel
theorem dX12_searches_79 : decode cX12_searches 79 = .ok (.istore 6, 2) := by decide +kernel
theorem dX12_searches_81 : decode cX12_searches 81 = .ok (.iload 6, 2) := by decide +kernel
theorem dX12_searches_83 : decode cX12_searches 83 = .ok (.aload_n 0, 1) := by decide +kernel
theorem dX12_searches_84 : decode cX12_searches 84 = .ok (.getfield 405, 3) := by decide +kernel
theorem dX12_searches_87 : decode cX12_searches 87 = .ok (.if_icmp .ge 47, 3) := by decide +kernel
theorem dX12_searches_90 : decode cX12_searches 90 = .ok (.aload_n 0, 1) := by decide +kernel
theorem dX12_searches_91 : decode cX12_searches 91 = .ok (.getfield 411, 3) := by decide +kernel
theorem dX12_searches_94 : decode cX12_searches 94 = .ok (.iconst (-1), 1) := by decide +kernel
theorem dX12_searches_95 : decode cX12_searches 95 = .ok (.if_icmp .ne 39, 3) := by decide +kernel
theorem dX12_searches_98 : decode cX12_searches 98 = .ok (.aload_n 0, 1) := by decide +kernel
theorem dX12_searches_99 : decode cX12_searches 99 = .ok (.getfield 408, 3) := by decide +kernel
theorem dX12_searches_102 : decode cX12_searches 102 = .ok (.ifCond .ne 32, 3) := by decide +kernel
theorem dX12_searches_105 : decode cX12_searches 105 = .ok (.aload_n 0, 1) := by decide +kernel
theorem dX12_searches_106 : decode cX12_searches 106 = .ok (.getfield 107, 3) := by decide +kernel
theorem dX12_searches_109 : decode cX12_searches 109 = .ok (.iload 6, 2) := by decide +kernel
theorem dX12_searches_111 : decode cX12_searches 111 = .ok (.iaload, 1) := by decide +kernel
theorem dX12_searches_112 : decode cX12_searches 112 = .ok (.iload_n 3, 1) := by decide +kernel
theorem dX12_searches_113 : decode cX12_searches 113 = .ok (.if_icmp .ge 15, 3) := by decide +kernel
theorem dX12_searches_116 : decode cX12_searches 116 = .ok (.aload_n 0, 1) := by decide +kernel
theorem dX12_searches_117 : decode cX12_searches 117 = .ok (.iload 6, 2) := by decide +kernel
theorem dX12_searches_119 : decode cX12_searches 119 = .ok (.iload_n 1, 1) := by decide +kernel
theorem dX12_searches_120 : decode cX12_searches 120 = .ok (.iload_n 2, 1) := by decide +kernel
theorem dX12_searches_121 : decode cX12_searches 121 = .ok (.iload 4, 2) := by decide +kernel
theorem dX12_searches_123 : decode cX12_searches 123 = .ok (.iload 5, 2) := by decide +kernel
theorem dX12_searches_125 : decode cX12_searches 125 = .ok (.invokevirtual 422, 3) := by decide +kernel
theorem dX12_searches_128 : decode cX12_searches 128 = .ok (.iinc 6 1, 3) := by decide +kernel
theorem dX12_searches_131 : decode cX12_searches 131 = .ok (.goto (-50), 3) := by decide +kernel
theorem dX12_searches_134 : decode cX12_searches 134 = .ok (.return_, 1) := by decide +kernel
theorem dX12_see_0 : decode cX12_see 0 = .ok (.iload_n 1, 1) := by decide +kernel
theorem dX12_see_1 : decode cX12_see 1 = .ok (.aload_n 0, 1) := by decide +kernel
theorem dX12_see_2 : decode cX12_see 2 = .ok (.getfield 182, 3) := by decide +kernel
theorem dX12_see_5 : decode cX12_see 5 = .ok (.if_icmp .ge 12, 3) := by decide +kernel
theorem dX12_see_8 : decode cX12_see 8 = .ok (.aload_n 0, 1) := by decide +kernel
theorem dX12_see_9 : decode cX12_see 9 = .ok (.getfield 78, 3) := by decide +kernel
theorem dX12_see_12 : decode cX12_see 12 = .ok (.iload_n 1, 1) := by decide +kernel
theorem dX12_see_13 : decode cX12_see 13 = .ok (.iaload, 1) := by decide +kernel
theorem dX12_see_14 : decode cX12_see 14 = .ok (.goto 4, 3) := by decide +kernel
theorem dX12_see_17 : decode cX12_see 17 = .ok (.iconst (-1), 1) := by decide +kernel
theorem dX12_see_18 : decode cX12_see 18 = .ok (.ireturn, 1) := by decide +kernel
theorem dX12_single_0 : decode cX12_single 0 = .ok (.aload_n 0, 1) := by decide +kernel
theorem dX12_single_1 : decode cX12_single 1 = .ok (.getfield 242, 3) := by decide +kernel
theorem dX12_single_4 : decode cX12_single 4 = .ok (.sipush 314, 3) := by decide +kernel
theorem dX12_single_7 : decode cX12_single 7 = .ok (.if_icmp .ne 38, 3) := by decide +kernel
theorem dX12_single_10 : decode cX12_single 10 = .ok (.aload_n 0, 1) := by decide +kernel
theorem dX12_single_11 : decode cX12_single 11 = .ok (.invokevirtual 307, 3) := by decide +kernel
theorem dX12_single_14 : decode cX12_single 14 = .ok (.ifCond .eq 10, 3) := by decide +kernel
theorem dX12_single_17 : decode cX12_single 17 = .ok (.aload_n 0, 1) := by decide +kernel
theorem dX12_single_18 : decode cX12_single 18 = .ok (.invokevirtual 304, 3) := by decide +kernel
theorem dX12_single_21 : decode cX12_single 21 = .ok (.ifCond .ne 5, 3) := by decide +kernel
theorem dX12_single_24 : decode cX12_single 24 = .ok (.iconst 0, 1) := by decide +kernel
theorem dX12_single_25 : decode cX12_single 25 = .ok (.ireturn, 1) := by decide +kernel
theorem dX12_single_26 : decode cX12_single 26 = .ok (.aload_n 0, 1) := by decide +kernel
theorem dX12_single_27 : decode cX12_single 27 = .ok (.dup, 1) := by decide +kernel
theorem dX12_single_28 : decode cX12_single 28 = .ok (.getfield 282, 3) := by decide +kernel
theorem dX12_single_31 : decode cX12_single 31 = .ok (.iconst 1, 1) := by decide +kernel
theorem dX12_single_32 : decode cX12_single 32 = .ok (.isub, 1) := by decide +kernel
theorem dX12_single_33 : decode cX12_single 33 = .ok (.putfield 282, 3) := by decide +kernel
theorem dX12_single_36 : decode cX12_single 36 = .ok (.aload_n 0, 1) := by decide +kernel
theorem dX12_single_37 : decode cX12_single 37 = .ok (.bipush 14, 2) := by decide +kernel
theorem dX12_single_39 : decode cX12_single 39 = .ok (.iconst 0, 1) := by decide +kernel
theorem dX12_single_40 : decode cX12_single 40 = .ok (.invokevirtual 288, 3) := by decide +kernel
theorem dX12_single_43 : decode cX12_single 43 = .ok (.iconst 1, 1) := by decide +kernel
theorem dX12_single_44 : decode cX12_single 44 = .ok (.ireturn, 1) := by decide +kernel
theorem dX12_single_45 : decode cX12_single 45 = .ok (.aload_n 0, 1) := by decide +kernel
theorem dX12_single_46 : decode cX12_single 46 = .ok (.getfield 242, 3) := by decide +kernel
theorem dX12_single_49 : decode cX12_single 49 = .ok (.bipush 40, 2) := by decide +kernel
theorem dX12_single_51 : decode cX12_single 51 = .ok (.if_icmp .ne 40, 3) := by decide +kernel
theorem dX12_single_54 : decode cX12_single 54 = .ok (.aload_n 0, 1) := by decide +kernel
theorem dX12_single_55 : decode cX12_single 55 = .ok (.invokevirtual 307, 3) := by decide +kernel
theorem dX12_single_58 : decode cX12_single 58 = .ok (.ifCond .eq 19, 3) := by decide +kernel
theorem dX12_single_61 : decode cX12_single 61 = .ok (.aload_n 0, 1) := by decide +kernel
theorem dX12_single_62 : decode cX12_single 62 = .ok (.invokevirtual 310, 3) := by decide +kernel
theorem dX12_single_65 : decode cX12_single 65 = .ok (.ifCond .eq 12, 3) := by decide +kernel
theorem dX12_single_68 : decode cX12_single 68 = .ok (.aload_n 0, 1) := by decide +kernel
theorem dX12_single_69 : decode cX12_single 69 = .ok (.bipush 41, 2) := by decide +kernel
theorem dX12_single_71 : decode cX12_single 71 = .ok (.invokevirtual 313, 3) := by decide +kernel
theorem dX12_single_74 : decode cX12_single 74 = .ok (.ifCond .ne 5, 3) := by decide +kernel
theorem dX12_single_77 : decode cX12_single 77 = .ok (.iconst 0, 1) := by decide +kernel
theorem dX12_single_78 : decode cX12_single 78 = .ok (.ireturn, 1) := by decide +kernel
theorem dX12_single_79 : decode cX12_single 79 = .ok (.aload_n 0, 1) := by decide +kernel
theorem dX12_single_80 : decode cX12_single 80 = .ok (.dup, 1) := by decide +kernel
theorem dX12_single_81 : decode cX12_single 81 = .ok (.getfield 282, 3) := by decide +kernel
theorem dX12_single_84 : decode cX12_single 84 = .ok (.iconst 1, 1) := by decide +kernel
theorem dX12_single_85 : decode cX12_single 85 = .ok (.isub, 1) := by decide +kernel
theorem dX12_single_86 : decode cX12_single 86 = .ok (.putfield 282, 3) := by decide +kernel
theorem dX12_single_89 : decode cX12_single 89 = .ok (.iconst 1, 1) := by decide +kernel
theorem dX12_single_90 : decode cX12_single 90 = .ok (.ireturn, 1) := by decide +kernel
theorem dX12_single_91 : decode cX12_single 91 = .ok (.aload_n 0, 1) := by decide +kernel
theorem dX12_single_92 : decode cX12_single 92 = .ok (.invokevirtual 315, 3) := by decide +kernel
theorem dX12_single_95 : decode cX12_single 95 = .ok (.ifCond .ne 5, 3) := by decide +kernel
theorem dX12_single_98 : decode cX12_single 98 = .ok (.iconst 0, 1) := by decide +kernel
theorem dX12_single_99 : decode cX12_single 99 = .ok (.ireturn, 1) := by decide +kernel
theorem dX12_single_100 : decode cX12_single 100 = .ok (.aload_n 0, 1) := by decide +kernel
theorem dX12_single_101 : decode cX12_single 101 = .ok (.getfield 242, 3) := by decide +kernel
theorem dX12_single_104 : decode cX12_single 104 = .ok (.bipush 60, 2) := by decide +kernel
theorem dX12_single_106 : decode cX12_single 106 = .ok (.if_icmp .ne 8, 3) := by decide +kernel
theorem dX12_single_109 : decode cX12_single 109 = .ok (.bipush 11, 2) := by decide +kernel
theorem dX12_single_111 : decode cX12_single 111 = .ok (.goto 32, 3) := by decide +kernel
theorem dX12_single_114 : decode cX12_single 114 = .ok (.aload_n 0, 1) := by decide +kernel
theorem dX12_single_115 : decode cX12_single 115 = .ok (.getfield 242, 3) := by decide +kernel
theorem dX12_single_118 : decode cX12_single 118 = .ok (.bipush 61, 2) := by decide +kernel
theorem dX12_single_120 : decode cX12_single 120 = .ok (.if_icmp .ne 8, 3) := by decide +kernel
theorem dX12_single_123 : decode cX12_single 123 = .ok (.bipush 12, 2) := by decide +kernel
theorem dX12_single_125 : decode cX12_single 125 = .ok (.goto 18, 3) := by decide +kernel
theorem dX12_single_128 : decode cX12_single 128 = .ok (.aload_n 0, 1) := by decide +kernel
theorem dX12_single_129 : decode cX12_single 129 = .ok (.getfield 242, 3) := by decide +kernel
theorem dX12_single_132 : decode cX12_single 132 = .ok (.bipush 62, 2) := by decide +kernel
theorem dX12_single_134 : decode cX12_single 134 = .ok (.if_icmp .ne 8, 3) := by decide +kernel
theorem dX12_single_137 : decode cX12_single 137 = .ok (.bipush 13, 2) := by decide +kernel
theorem dX12_single_139 : decode cX12_single 139 = .ok (.goto 4, 3) := by decide +kernel
theorem dX12_single_142 : decode cX12_single 142 = .ok (.iconst (-1), 1) := by decide +kernel
theorem dX12_single_143 : decode cX12_single 143 = .ok (.istore_n 1, 1) := by decide +kernel
theorem dX12_single_144 : decode cX12_single 144 = .ok (.iload_n 1, 1) := by decide +kernel
theorem dX12_single_145 : decode cX12_single 145 = .ok (.iconst (-1), 1) := by decide +kernel
theorem dX12_single_146 : decode cX12_single 146 = .ok (.if_icmp .ne 9, 3) := by decide +kernel
theorem dX12_single_149 : decode cX12_single 149 = .ok (.aload_n 0, 1) := by decide +kernel
theorem dX12_single_150 : decode cX12_single 150 = .ok (.iconst 1, 1) := by decide +kernel
theorem dX12_single_151 : decode cX12_single 151 = .ok (.invokevirtual 263, 3) := by decide +kernel
theorem dX12_single_154 : decode cX12_single 154 = .ok (.ireturn, 1) := by decide +kernel
theorem dX12_single_155 : decode cX12_single 155 = .ok (.aload_n 0, 1) := by decide +kernel
theorem dX12_single_156 : decode cX12_single 156 = .ok (.invokevirtual 266, 3) := by decide +kernel
theorem dX12_single_159 : decode cX12_single 159 = .ok (.aload_n 0, 1) := by decide +kernel
theorem dX12_single_160 : decode cX12_single 160 = .ok (.invokevirtual 315, 3) := by decide +kernel
theorem dX12_single_163 : decode cX12_single 163 = .ok (.ifCond .ne 5, 3) := by decide +kernel
theorem dX12_single_166 : decode cX12_single 166 = .ok (.iconst 0, 1) := by decide +kernel
theorem dX12_single_167 : decode cX12_single 167 = .ok (.ireturn, 1) := by decide +kernel
theorem dX12_single_168 : decode cX12_single 168 = .ok (.aload_n 0, 1) := by decide +kernel
theorem dX12_single_169 : decode cX12_single 169 = .ok (.iload_n 1, 1) := by decide +kernel
theorem dX12_single_170 : decode cX12_single 170 = .ok (.iconst 0, 1) := by decide +kernel
theorem dX12_single_171 : decode cX12_single 171 = .ok (.invokevirtual 288, 3) := by decide +kernel
theorem dX12_single_174 : decode cX12_single 174 = .ok (.iconst 1, 1) := by decide +kernel
theorem dX12_single_175 : decode cX12_single 175 = .ok (.ireturn, 1) := by decide +kernel
theorem dX12_statute_0 : decode cX12_statute 0 = .ok (.aload_n 0, 1) := by decide +kernel
theorem dX12_statute_1 : decode cX12_statute 1 = .ok (.iconst 0, 1) := by decide +kernel
theorem dX12_statute_2 : decode cX12_statute 2 = .ok (.putfield 257, 3) := by decide +kernel
theorem dX12_statute_5 : decode cX12_statute 5 = .ok (.iload_n 1, 1) := by decide +kernel
theorem dX12_statute_6 : decode cX12_statute 6 = .ok (.iconst 0, 1) := by decide +kernel
theorem dX12_statute_7 : decode cX12_statute 7 = .ok (.iconst 1, 1) := by decide +kernel
theorem dX12_statute_8 : decode cX12_statute 8 = .ok (.invokestatic 1, 3) := by decide +kernel
theorem dX12_statute_11 : decode cX12_statute 11 = .ok (.ifCond .ne 9, 3) := by decide +kernel
theorem dX12_statute_14 : decode cX12_statute 14 = .ok (.aload_n 0, 1) := by decide +kernel
theorem dX12_statute_15 : decode cX12_statute 15 = .ok (.invokevirtual 336, 3) := by decide +kernel
theorem dX12_statute_18 : decode cX12_statute 18 = .ok (.iconst (-1), 1) := by decide +kernel
theorem dX12_statute_19 : decode cX12_statute 19 = .ok (.ireturn, 1) := by decide +kernel
theorem dX12_statute_20 : decode cX12_statute 20 = .ok (.aload_n 0, 1) := by decide +kernel
theorem dX12_statute_21 : decode cX12_statute 21 = .ok (.invokevirtual 339, 3) := by decide +kernel
theorem dX12_statute_24 : decode cX12_statute 24 = .ok (.iconst 1, 1) := by decide +kernel
theorem dX12_statute_25 : decode cX12_statute 25 = .ok (.istore_n 2, 1) := by decide +kernel
theorem dX12_statute_26 : decode cX12_statute 26 = .ok (.iload_n 2, 1) := by decide +kernel
theorem dX12_statute_27 : decode cX12_statute 27 = .ok (.ifCond .eq 18, 3) := by decide +kernel
theorem dX12_statute_30 : decode cX12_statute 30 = .ok (.aload_n 0, 1) := by decide +kernel
theorem dX12_statute_31 : decode cX12_statute 31 = .ok (.getfield 242, 3) := by decide +kernel
theorem dX12_statute_34 : decode cX12_statute 34 = .ok (.ifCond .eq 11, 3) := by decide +kernel
theorem dX12_statute_37 : decode cX12_statute 37 = .ok (.aload_n 0, 1) := by decide +kernel
theorem dX12_statute_38 : decode cX12_statute 38 = .ok (.invokevirtual 342, 3) := by decide +kernel
theorem dX12_statute_41 : decode cX12_statute 41 = .ok (.istore_n 2, 1) := by decide +kernel
theorem dX12_statute_42 : decode cX12_statute 42 = .ok (.goto (-16), 3) := by decide +kernel
theorem dX12_statute_45 : decode cX12_statute 45 = .ok (.aload_n 0, 1) := by decide +kernel
theorem dX12_statute_46 : decode cX12_statute 46 = .ok (.invokevirtual 336, 3) := by decide +kernel
theorem dX12_statute_49 : decode cX12_statute 49 = .ok (.iload_n 2, 1) := by decide +kernel
theorem dX12_statute_50 : decode cX12_statute 50 = .ok (.ifCond .ne 5, 3) := by decide +kernel
theorem dX12_statute_53 : decode cX12_statute 53 = .ok (.iconst (-1), 1) := by decide +kernel
theorem dX12_statute_54 : decode cX12_statute 54 = .ok (.ireturn, 1) := by decide +kernel
theorem dX12_statute_55 : decode cX12_statute 55 = .ok (.aload_n 0, 1) := by decide +kernel
theorem dX12_statute_56 : decode cX12_statute 56 = .ok (.iload_n 1, 1) := by decide +kernel
theorem dX12_statute_57 : decode cX12_statute 57 = .ok (.invokevirtual 345, 3) := by decide +kernel
theorem dX12_statute_60 : decode cX12_statute 60 = .ok (.aload_n 0, 1) := by decide +kernel
theorem dX12_statute_61 : decode cX12_statute 61 = .ok (.getfield 36, 3) := by decide +kernel
theorem dX12_statute_64 : decode cX12_statute 64 = .ok (.iload_n 1, 1) := by decide +kernel
theorem dX12_statute_65 : decode cX12_statute 65 = .ok (.aload_n 0, 1) := by decide +kernel
theorem dX12_statute_66 : decode cX12_statute 66 = .ok (.getfield 321, 3) := by decide +kernel
theorem dX12_statute_69 : decode cX12_statute 69 = .ok (.iastore, 1) := by decide +kernel
theorem dX12_statute_70 : decode cX12_statute 70 = .ok (.iconst 0, 1) := by decide +kernel
theorem dX12_statute_71 : decode cX12_statute 71 = .ok (.istore_n 3, 1) := by decide +kernel
theorem dX12_statute_72 : decode cX12_statute 72 = .ok (.iload_n 3, 1) := by decide +kernel
theorem dX12_statute_73 : decode cX12_statute 73 = .ok (.aload_n 0, 1) := by decide +kernel
theorem dX12_statute_74 : decode cX12_statute 74 = .ok (.getfield 321, 3) := by decide +kernel
theorem dX12_statute_77 : decode cX12_statute 77 = .ok (.if_icmp .ge 23, 3) := by decide +kernel
theorem dX12_statute_80 : decode cX12_statute 80 = .ok (.aload_n 0, 1) := by decide +kernel
theorem dX12_statute_81 : decode cX12_statute 81 = .ok (.bipush 6, 2) := by decide +kernel
theorem dX12_statute_83 : decode cX12_statute 83 = .ok (.iload_n 1, 1) := by decide +kernel
theorem dX12_statute_84 : decode cX12_statute 84 = .ok (.imul, 1) := by decide +kernel
theorem dX12_statute_85 : decode cX12_statute 85 = .ok (.iload_n 3, 1) := by decide +kernel
theorem dX12_statute_86 : decode cX12_statute 86 = .ok (.iadd, 1) := by decide +kernel
theorem dX12_statute_87 : decode cX12_statute 87 = .ok (.bipush 12, 2) := by decide +kernel
theorem dX12_statute_89 : decode cX12_statute 89 = .ok (.iload_n 3, 1) := by decide +kernel
theorem dX12_statute_90 : decode cX12_statute 90 = .ok (.iadd, 1) := by decide +kernel
theorem dX12_statute_91 : decode cX12_statute 91 = .ok (.invokevirtual 349, 3) := by decide +kernel
theorem dX12_statute_94 : decode cX12_statute 94 = .ok (.iinc 3 1, 3) := by decide +kernel
theorem dX12_statute_97 : decode cX12_statute 97 = .ok (.goto (-25), 3) := by decide +kernel
theorem dX12_statute_100 : decode cX12_statute 100 = .ok (.aload_n 0, 1) := by decide +kernel
theorem dX12_statute_101 : decode cX12_statute 101 = .ok (.getfield 321, 3) := by decide +kernel
theorem dX12_statute_104 : decode cX12_statute 104 = .ok (.ireturn, 1) := by decide +kernel
theorem dX12_stood_0 : decode cX12_stood 0 = .ok (.iload_n 1, 1) := by decide +kernel
theorem dX12_stood_1 : decode cX12_stood 1 = .ok (.iconst 3, 1) := by decide +kernel
theorem dX12_stood_2 : decode cX12_stood 2 = .ok (.if_icmp .ne 7, 3) := by decide +kernel
theorem dX12_stood_5 : decode cX12_stood 5 = .ok (.iconst 3, 1) := by decide +kernel
theorem dX12_stood_6 : decode cX12_stood 6 = .ok (.goto 18, 3) := by decide +kernel
theorem dX12_stood_9 : decode cX12_stood 9 = .ok (.iload_n 1, 1) := by decide +kernel
theorem dX12_stood_10 : decode cX12_stood 10 = .ok (.ifCond .ne 10, 3) := by decide +kernel
theorem dX12_stood_13 : decode cX12_stood 13 = .ok (.aload_n 0, 1) := by decide +kernel
theorem dX12_stood_14 : decode cX12_stood 14 = .ok (.getfield 364, 3) := by decide +kernel
theorem dX12_stood_17 : decode cX12_stood 17 = .ok (.goto 7, 3) := by decide +kernel
theorem dX12_stood_20 : decode cX12_stood 20 = .ok (.aload_n 0, 1) := by decide +kernel
theorem dX12_stood_21 : decode cX12_stood 21 = .ok (.getfield 367, 3) := by decide +kernel
theorem dX12_stood_24 : decode cX12_stood 24 = .ok (.ireturn, 1) := by decide +kernel
theorem dX12_stop_0 : decode cX12_stop 0 = .ok (.aload_n 0, 1) := by decide +kernel
theorem dX12_stop_1 : decode cX12_stop 1 = .ok (.iload_n 1, 1) := by decide +kernel
theorem dX12_stop_2 : decode cX12_stop 2 = .ok (.invokevirtual 430, 3) := by decide +kernel
theorem dX12_stop_5 : decode cX12_stop 5 = .ok (.ifCond .eq 22, 3) := by decide +kernel
theorem dX12_stop_8 : decode cX12_stop 8 = .ok (.iload_n 2, 1) := by decide +kernel
theorem dX12_stop_9 : decode cX12_stop 9 = .ok (.iconst 0, 1) := by decide +kernel
theorem dX12_stop_10 : decode cX12_stop 10 = .ok (.bipush 6, 2) := by decide +kernel
theorem dX12_stop_12 : decode cX12_stop 12 = .ok (.invokestatic 1, 3) := by decide +kernel
theorem dX12_stop_15 : decode cX12_stop 15 = .ok (.ifCond .eq 12, 3) := by decide +kernel
theorem dX12_stop_18 : decode cX12_stop 18 = .ok (.iload_n 3, 1) := by decide +kernel
theorem dX12_stop_19 : decode cX12_stop 19 = .ok (.iconst 0, 1) := by decide +kernel
theorem dX12_stop_20 : decode cX12_stop 20 = .ok (.iconst 1, 1) := by decide +kernel
theorem dX12_stop_21 : decode cX12_stop 21 = .ok (.invokestatic 1, 3) := by decide +kernel
theorem dX12_stop_24 : decode cX12_stop 24 = .ok (.ifCond .ne 5, 3) := by decide +kernel
theorem dX12_stop_27 : decode cX12_stop 27 = .ok (.iconst (-1), 1) := by decide +kernel
theorem dX12_stop_28 : decode cX12_stop 28 = .ok (.ireturn, 1) := by decide +kernel
theorem dX12_stop_29 : decode cX12_stop 29 = .ok (.iconst 0, 1) := by decide +kernel
theorem dX12_stop_30 : decode cX12_stop 30 = .ok (.istore 4, 2) := by decide +kernel
theorem dX12_stop_32 : decode cX12_stop 32 = .ok (.iload 4, 2) := by decide +kernel
theorem dX12_stop_34 : decode cX12_stop 34 = .ok (.aload_n 0, 1) := by decide +kernel
theorem dX12_stop_35 : decode cX12_stop 35 = .ok (.getfield 358, 3) := by decide +kernel
theorem dX12_stop_38 : decode cX12_stop 38 = .ok (.if_icmp .gt 89, 3) := by decide +kernel
theorem dX12_stop_41 : decode cX12_stop 41 = .ok (.iconst 0, 1) := by decide +kernel
theorem dX12_stop_42 : decode cX12_stop 42 = .ok (.istore 5, 2) := by decide +kernel
theorem dX12_stop_44 : decode cX12_stop 44 = .ok (.iload 5, 2) := by decide +kernel
theorem dX12_stop_46 : decode cX12_stop 46 = .ok (.iconst 1, 1) := by decide +kernel
theorem dX12_stop_47 : decode cX12_stop 47 = .ok (.aload_n 0, 1) := by decide +kernel
theorem dX12_stop_48 : decode cX12_stop 48 = .ok (.getfield 358, 3) := by decide +kernel
theorem dX12_stop_51 : decode cX12_stop 51 = .ok (.ishl, 1) := by decide +kernel
theorem dX12_stop_52 : decode cX12_stop 52 = .ok (.if_icmp .ge 69, 3) := by decide +kernel
theorem dX12_stop_55 : decode cX12_stop 55 = .ok (.iload 5, 2) := by decide +kernel
theorem dX12_stop_57 : decode cX12_stop 57 = .ok (.invokestatic 442, 3) := by decide +kernel
theorem dX12_stop_60 : decode cX12_stop 60 = .ok (.iload 4, 2) := by decide +kernel
theorem dX12_stop_62 : decode cX12_stop 62 = .ok (.if_icmp .ne 53, 3) := by decide +kernel
theorem dX12_stop_65 : decode cX12_stop 65 = .ok (.aload_n 0, 1) := by decide +kernel
theorem dX12_stop_66 : decode cX12_stop 66 = .ok (.iload 5, 2) := by decide +kernel
theorem dX12_stop_68 : decode cX12_stop 68 = .ok (.invokevirtual 467, 3) := by decide +kernel
theorem dX12_stop_71 : decode cX12_stop 71 = .ok (.ifCond .ne 6, 3) := by decide +kernel
theorem dX12_stop_74 : decode cX12_stop 74 = .ok (.goto 41, 3) := by decide +kernel
theorem dX12_stop_77 : decode cX12_stop 77 = .ok (.aload_n 0, 1) := by decide +kernel
theorem dX12_stop_78 : decode cX12_stop 78 = .ok (.iload_n 1, 1) := by decide +kernel
theorem dX12_stop_79 : decode cX12_stop 79 = .ok (.iconst 3, 1) := by decide +kernel
theorem dX12_stop_80 : decode cX12_stop 80 = .ok (.iload_n 2, 1) := by decide +kernel
theorem dX12_stop_81 : decode cX12_stop 81 = .ok (.bipush 7, 2) := by decide +kernel
theorem dX12_stop_83 : decode cX12_stop 83 = .ok (.iload 5, 2) := by decide +kernel
theorem dX12_stop_85 : decode cX12_stop 85 = .ok (.invokevirtual 436, 3) := by decide +kernel
theorem dX12_stop_88 : decode cX12_stop 88 = .ok (.aload_n 0, 1) := by decide +kernel
theorem dX12_stop_89 : decode cX12_stop 89 = .ok (.getfield 411, 3) := by decide +kernel
theorem dX12_stop_92 : decode cX12_stop 92 = .ok (.iconst (-1), 1) := by decide +kernel
theorem dX12_stop_93 : decode cX12_stop 93 = .ok (.if_icmp .ne 22, 3) := by decide +kernel
theorem dX12_stop_96 : decode cX12_stop 96 = .ok (.aload_n 0, 1) := by decide +kernel
theorem dX12_stop_97 : decode cX12_stop 97 = .ok (.getfield 408, 3) := by decide +kernel
theorem dX12_stop_100 : decode cX12_stop 100 = .ok (.ifCond .ne 15, 3) := by decide +kernel
theorem dX12_stop_103 : decode cX12_stop 103 = .ok (.iload_n 3, 1) := by decide +kernel
theorem dX12_stop_104 : decode cX12_stop 104 = .ok (.ifCond .ne 8, 3) := by decide +kernel
theorem dX12_stop_107 : decode cX12_stop 107 = .ok (.iload 5, 2) := by decide +kernel
theorem dX12_stop_109 : decode cX12_stop 109 = .ok (.goto 5, 3) := by decide +kernel
theorem dX12_stop_112 : decode cX12_stop 112 = .ok (.iload 4, 2) := by decide +kernel
theorem dX12_stop_114 : decode cX12_stop 114 = .ok (.ireturn, 1) := by decide +kernel
theorem dX12_stop_115 : decode cX12_stop 115 = .ok (.iinc 5 1, 3) := by decide +kernel
theorem dX12_stop_118 : decode cX12_stop 118 = .ok (.goto (-74), 3) := by decide +kernel
theorem dX12_stop_121 : decode cX12_stop 121 = .ok (.iinc 4 1, 3) := by decide +kernel
theorem dX12_stop_124 : decode cX12_stop 124 = .ok (.goto (-92), 3) := by decide +kernel
theorem dX12_stop_127 : decode cX12_stop 127 = .ok (.iconst (-1), 1) := by decide +kernel
theorem dX12_stop_128 : decode cX12_stop 128 = .ok (.ireturn, 1) := by decide +kernel
theorem dX12_sumUp_0 : decode cX12_sumUp 0 = .ok (.aload_n 0, 1) := by decide +kernel
theorem dX12_sumUp_1 : decode cX12_sumUp 1 = .ok (.invokevirtual 285, 3) := by decide +kernel
theorem dX12_sumUp_4 : decode cX12_sumUp 4 = .ok (.ifCond .ne 5, 3) := by decide +kernel
theorem dX12_sumUp_7 : decode cX12_sumUp 7 = .ok (.iconst 0, 1) := by decide +kernel
theorem dX12_sumUp_8 : decode cX12_sumUp 8 = .ok (.ireturn, 1) := by decide +kernel
theorem dX12_sumUp_9 : decode cX12_sumUp 9 = .ok (.aload_n 0, 1) := by decide +kernel
theorem dX12_sumUp_10 : decode cX12_sumUp 10 = .ok (.getfield 242, 3) := by decide +kernel
theorem dX12_sumUp_13 : decode cX12_sumUp 13 = .ok (.bipush 43, 2) := by decide +kernel
theorem dX12_sumUp_15 : decode cX12_sumUp 15 = .ok (.if_icmp .eq 12, 3) := by decide +kernel
theorem dX12_sumUp_18 : decode cX12_sumUp 18 = .ok (.aload_n 0, 1) := by decide +kernel
theorem dX12_sumUp_19 : decode cX12_sumUp 19 = .ok (.getfield 242, 3) := by decide +kernel
theorem dX12_sumUp_22 : decode cX12_sumUp 22 = .ok (.bipush 45, 2) := by decide +kernel
theorem dX12_sumUp_24 : decode cX12_sumUp 24 = .ok (.if_icmp .ne 42, 3) := by decide +kernel
theorem dX12_sumUp_27 : decode cX12_sumUp 27 = .ok (.aload_n 0, 1) := by decide +kernel
theorem dX12_sumUp_28 : decode cX12_sumUp 28 = .ok (.getfield 242, 3) := by decide +kernel
theorem dX12_sumUp_31 : decode cX12_sumUp 31 = .ok (.bipush 43, 2) := by decide +kernel
theorem dX12_sumUp_33 : decode cX12_sumUp 33 = .ok (.if_icmp .ne 8, 3) := by decide +kernel
theorem dX12_sumUp_36 : decode cX12_sumUp 36 = .ok (.bipush 8, 2) := by decide +kernel
theorem dX12_sumUp_38 : decode cX12_sumUp 38 = .ok (.goto 5, 3) := by decide +kernel
theorem dX12_sumUp_41 : decode cX12_sumUp 41 = .ok (.bipush 9, 2) := by decide +kernel
theorem dX12_sumUp_43 : decode cX12_sumUp 43 = .ok (.istore_n 1, 1) := by decide +kernel
theorem dX12_sumUp_44 : decode cX12_sumUp 44 = .ok (.aload_n 0, 1) := by decide +kernel
theorem dX12_sumUp_45 : decode cX12_sumUp 45 = .ok (.invokevirtual 266, 3) := by decide +kernel
theorem dX12_sumUp_48 : decode cX12_sumUp 48 = .ok (.aload_n 0, 1) := by decide +kernel
theorem dX12_sumUp_49 : decode cX12_sumUp 49 = .ok (.invokevirtual 285, 3) := by decide +kernel
theorem dX12_sumUp_52 : decode cX12_sumUp 52 = .ok (.ifCond .ne 5, 3) := by decide +kernel
theorem dX12_sumUp_55 : decode cX12_sumUp 55 = .ok (.iconst 0, 1) := by decide +kernel
theorem dX12_sumUp_56 : decode cX12_sumUp 56 = .ok (.ireturn, 1) := by decide +kernel
theorem dX12_sumUp_57 : decode cX12_sumUp 57 = .ok (.aload_n 0, 1) := by decide +kernel
theorem dX12_sumUp_58 : decode cX12_sumUp 58 = .ok (.iload_n 1, 1) := by decide +kernel
theorem dX12_sumUp_59 : decode cX12_sumUp 59 = .ok (.iconst 0, 1) := by decide +kernel
theorem dX12_sumUp_60 : decode cX12_sumUp 60 = .ok (.invokevirtual 288, 3) := by decide +kernel
theorem dX12_sumUp_63 : decode cX12_sumUp 63 = .ok (.goto (-54), 3) := by decide +kernel
theorem dX12_sumUp_66 : decode cX12_sumUp 66 = .ok (.iconst 1, 1) := by decide +kernel
theorem dX12_sumUp_67 : decode cX12_sumUp 67 = .ok (.ireturn, 1) := by decide +kernel
theorem dX12_takes_0 : decode cX12_takes 0 = .ok (.lload_n 1, 1) := by decide +kernel
theorem dX12_takes_1 : decode cX12_takes 1 = .ok (.lstore_n 3, 1) := by decide +kernel
theorem dX12_takes_2 : decode cX12_takes 2 = .ok (.iconst 2, 1) := by decide +kernel
theorem dX12_takes_3 : decode cX12_takes 3 = .ok (.istore 5, 2) := by decide +kernel
theorem dX12_takes_5 : decode cX12_takes 5 = .ok (.iload 5, 2) := by decide +kernel
theorem dX12_takes_7 : decode cX12_takes 7 = .ok (.ifCond .lt 174, 3) := by decide +kernel
theorem dX12_takes_10 : decode cX12_takes 10 = .ok (.iconst 1, 1) := by decide +kernel
theorem dX12_takes_11 : decode cX12_takes 11 = .ok (.istore 6, 2) := by decide +kernel
theorem dX12_takes_13 : decode cX12_takes 13 = .ok (.iload 6, 2) := by decide +kernel
theorem dX12_takes_15 : decode cX12_takes 15 = .ok (.ifCond .lt 68, 3) := by decide +kernel
theorem dX12_takes_18 : decode cX12_takes 18 = .ok (.aload_n 0, 1) := by decide +kernel
theorem dX12_takes_19 : decode cX12_takes 19 = .ok (.getfield 27, 3) := by decide +kernel
theorem dX12_takes_22 : decode cX12_takes 22 = .ok (.iconst 3, 1) := by decide +kernel
theorem dX12_takes_23 : decode cX12_takes 23 = .ok (.iload 5, 2) := by decide +kernel
theorem dX12_takes_25 : decode cX12_takes 25 = .ok (.imul, 1) := by decide +kernel
theorem dX12_takes_26 : decode cX12_takes 26 = .ok (.iload 5, 2) := by decide +kernel
theorem dX12_takes_28 : decode cX12_takes 28 = .ok (.iload 6, 2) := by decide +kernel
theorem dX12_takes_30 : decode cX12_takes 30 = .ok (.invokestatic 160, 3) := by decide +kernel
theorem dX12_takes_33 : decode cX12_takes 33 = .ok (.iadd, 1) := by decide +kernel
theorem dX12_takes_34 : decode cX12_takes 34 = .ok (.lload_n 3, 1) := by decide +kernel
theorem dX12_takes_35 : decode cX12_takes 35 = .ok (.lconst 1, 1) := by decide +kernel
theorem dX12_takes_36 : decode cX12_takes 36 = .ok (.land, 1) := by decide +kernel
theorem dX12_takes_37 : decode cX12_takes 37 = .ok (.lconst 1, 1) := by decide +kernel
theorem dX12_takes_38 : decode cX12_takes 38 = .ok (.lcmp, 1) := by decide +kernel
theorem dX12_takes_39 : decode cX12_takes 39 = .ok (.ifCond .ne 7, 3) := by decide +kernel
theorem dX12_takes_42 : decode cX12_takes 42 = .ok (.iconst 1, 1) := by decide +kernel
theorem dX12_takes_43 : decode cX12_takes 43 = .ok (.goto 4, 3) := by decide +kernel
theorem dX12_takes_46 : decode cX12_takes 46 = .ok (.iconst 0, 1) := by decide +kernel
theorem dX12_takes_47 : decode cX12_takes 47 = .ok (.bastore, 1) := by decide +kernel
theorem dX12_takes_48 : decode cX12_takes 48 = .ok (.aload_n 0, 1) := by decide +kernel
theorem dX12_takes_49 : decode cX12_takes 49 = .ok (.getfield 17, 3) := by decide +kernel
theorem dX12_takes_52 : decode cX12_takes 52 = .ok (.iconst 3, 1) := by decide +kernel
theorem dX12_takes_53 : decode cX12_takes 53 = .ok (.iload 5, 2) := by decide +kernel
theorem dX12_takes_55 : decode cX12_takes 55 = .ok (.imul, 1) := by decide +kernel
theorem dX12_takes_56 : decode cX12_takes 56 = .ok (.iload 5, 2) := by decide +kernel
theorem dX12_takes_58 : decode cX12_takes 58 = .ok (.iload 6, 2) := by decide +kernel
theorem dX12_takes_60 : decode cX12_takes 60 = .ok (.invokestatic 160, 3) := by decide +kernel
theorem dX12_takes_63 : decode cX12_takes 63 = .ok (.iadd, 1) := by decide +kernel
theorem dX12_takes_64 : decode cX12_takes 64 = .ok (.lload_n 3, 1) := by decide +kernel
theorem dX12_takes_65 : decode cX12_takes 65 = .ok (.iconst 1, 1) := by decide +kernel
theorem dX12_takes_66 : decode cX12_takes 66 = .ok (.lshr, 1) := by decide +kernel
theorem dX12_takes_67 : decode cX12_takes 67 = .ok (.ldc2_w 164, 3) := by decide +kernel
theorem dX12_takes_70 : decode cX12_takes 70 = .ok (.land, 1) := by decide +kernel
theorem dX12_takes_71 : decode cX12_takes 71 = .ok (.l2i, 1) := by decide +kernel
theorem dX12_takes_72 : decode cX12_takes 72 = .ok (.iastore, 1) := by decide +kernel
theorem dX12_takes_73 : decode cX12_takes 73 = .ok (.lload_n 3, 1) := by decide +kernel
theorem dX12_takes_74 : decode cX12_takes 74 = .ok (.iconst 4, 1) := by decide +kernel
theorem dX12_takes_75 : decode cX12_takes 75 = .ok (.lshr, 1) := by decide +kernel
theorem dX12_takes_76 : decode cX12_takes 76 = .ok (.lstore_n 3, 1) := by decide +kernel
theorem dX12_takes_77 : decode cX12_takes 77 = .ok (.iinc 6 (-1), 3) := by decide +kernel
theorem dX12_takes_80 : decode cX12_takes 80 = .ok (.goto (-67), 3) := by decide +kernel
theorem dX12_takes_83 : decode cX12_takes 83 = .ok (.iload 5, 2) := by decide +kernel
theorem dX12_takes_85 : decode cX12_takes 85 = .ok (.iconst 0, 1) := by decide +kernel
theorem dX12_takes_86 : decode cX12_takes 86 = .ok (.invokestatic 160, 3) := by decide +kernel
theorem dX12_takes_89 : decode cX12_takes 89 = .ok (.istore 6, 2) := by decide +kernel
theorem dX12_takes_91 : decode cX12_takes 91 = .ok (.aload_n 0, 1) := by decide +kernel
theorem dX12_takes_92 : decode cX12_takes 92 = .ok (.getfield 23, 3) := by decide +kernel
theorem dX12_takes_95 : decode cX12_takes 95 = .ok (.iconst 3, 1) := by decide +kernel
theorem dX12_takes_96 : decode cX12_takes 96 = .ok (.iload 5, 2) := by decide +kernel
theorem dX12_takes_98 : decode cX12_takes 98 = .ok (.imul, 1) := by decide +kernel
theorem dX12_takes_99 : decode cX12_takes 99 = .ok (.iload 6, 2) := by decide +kernel
theorem dX12_takes_101 : decode cX12_takes 101 = .ok (.iadd, 1) := by decide +kernel
theorem dX12_takes_102 : decode cX12_takes 102 = .ok (.lload_n 3, 1) := by decide +kernel
theorem dX12_takes_103 : decode cX12_takes 103 = .ok (.lconst 1, 1) := by decide +kernel
theorem dX12_takes_104 : decode cX12_takes 104 = .ok (.land, 1) := by decide +kernel
theorem dX12_takes_105 : decode cX12_takes 105 = .ok (.lconst 1, 1) := by decide +kernel
theorem dX12_takes_106 : decode cX12_takes 106 = .ok (.lcmp, 1) := by decide +kernel
theorem dX12_takes_107 : decode cX12_takes 107 = .ok (.ifCond .ne 7, 3) := by decide +kernel
theorem dX12_takes_110 : decode cX12_takes 110 = .ok (.iconst 1, 1) := by decide +kernel
theorem dX12_takes_111 : decode cX12_takes 111 = .ok (.goto 4, 3) := by decide +kernel
theorem dX12_takes_114 : decode cX12_takes 114 = .ok (.iconst 0, 1) := by decide +kernel
theorem dX12_takes_115 : decode cX12_takes 115 = .ok (.bastore, 1) := by decide +kernel
theorem dX12_takes_116 : decode cX12_takes 116 = .ok (.aload_n 0, 1) := by decide +kernel
theorem dX12_takes_117 : decode cX12_takes 117 = .ok (.getfield 23, 3) := by decide +kernel
theorem dX12_takes_120 : decode cX12_takes 120 = .ok (.iconst 3, 1) := by decide +kernel
theorem dX12_takes_121 : decode cX12_takes 121 = .ok (.iload 6, 2) := by decide +kernel
theorem dX12_takes_123 : decode cX12_takes 123 = .ok (.imul, 1) := by decide +kernel
theorem dX12_takes_124 : decode cX12_takes 124 = .ok (.iload 5, 2) := by decide +kernel
theorem dX12_takes_126 : decode cX12_takes 126 = .ok (.iadd, 1) := by decide +kernel
theorem dX12_takes_127 : decode cX12_takes 127 = .ok (.aload_n 0, 1) := by decide +kernel
theorem dX12_takes_128 : decode cX12_takes 128 = .ok (.getfield 23, 3) := by decide +kernel
theorem dX12_takes_131 : decode cX12_takes 131 = .ok (.iconst 3, 1) := by decide +kernel
theorem dX12_takes_132 : decode cX12_takes 132 = .ok (.iload 5, 2) := by decide +kernel
theorem dX12_takes_134 : decode cX12_takes 134 = .ok (.imul, 1) := by decide +kernel
theorem dX12_takes_135 : decode cX12_takes 135 = .ok (.iload 6, 2) := by decide +kernel
theorem dX12_takes_137 : decode cX12_takes 137 = .ok (.iadd, 1) := by decide +kernel
theorem dX12_takes_138 : decode cX12_takes 138 = .ok (.baload, 1) := by decide +kernel
theorem dX12_takes_139 : decode cX12_takes 139 = .ok (.bastore, 1) := by decide +kernel
theorem dX12_takes_140 : decode cX12_takes 140 = .ok (.aload_n 0, 1) := by decide +kernel
theorem dX12_takes_141 : decode cX12_takes 141 = .ok (.getfield 20, 3) := by decide +kernel
theorem dX12_takes_144 : decode cX12_takes 144 = .ok (.iload 5, 2) := by decide +kernel
theorem dX12_takes_146 : decode cX12_takes 146 = .ok (.lload_n 3, 1) := by decide +kernel
theorem dX12_takes_147 : decode cX12_takes 147 = .ok (.iconst 1, 1) := by decide +kernel
theorem dX12_takes_148 : decode cX12_takes 148 = .ok (.lshr, 1) := by decide +kernel
theorem dX12_takes_149 : decode cX12_takes 149 = .ok (.ldc2_w 166, 3) := by decide +kernel
theorem dX12_takes_152 : decode cX12_takes 152 = .ok (.land, 1) := by decide +kernel
theorem dX12_takes_153 : decode cX12_takes 153 = .ok (.l2i, 1) := by decide +kernel
theorem dX12_takes_154 : decode cX12_takes 154 = .ok (.iastore, 1) := by decide +kernel
theorem dX12_takes_155 : decode cX12_takes 155 = .ok (.aload_n 0, 1) := by decide +kernel
theorem dX12_takes_156 : decode cX12_takes 156 = .ok (.getfield 13, 3) := by decide +kernel
theorem dX12_takes_159 : decode cX12_takes 159 = .ok (.iload 5, 2) := by decide +kernel
theorem dX12_takes_161 : decode cX12_takes 161 = .ok (.lload_n 3, 1) := by decide +kernel
theorem dX12_takes_162 : decode cX12_takes 162 = .ok (.iconst 3, 1) := by decide +kernel
theorem dX12_takes_163 : decode cX12_takes 163 = .ok (.lshr, 1) := by decide +kernel
theorem dX12_takes_164 : decode cX12_takes 164 = .ok (.ldc2_w 168, 3) := by decide +kernel
theorem dX12_takes_167 : decode cX12_takes 167 = .ok (.land, 1) := by decide +kernel
theorem dX12_takes_168 : decode cX12_takes 168 = .ok (.l2i, 1) := by decide +kernel
theorem dX12_takes_169 : decode cX12_takes 169 = .ok (.iastore, 1) := by decide +kernel
theorem dX12_takes_170 : decode cX12_takes 170 = .ok (.lload_n 3, 1) := by decide +kernel
theorem dX12_takes_171 : decode cX12_takes 171 = .ok (.bipush 7, 2) := by decide +kernel
theorem dX12_takes_173 : decode cX12_takes 173 = .ok (.lshr, 1) := by decide +kernel
theorem dX12_takes_174 : decode cX12_takes 174 = .ok (.lstore_n 3, 1) := by decide +kernel
theorem dX12_takes_175 : decode cX12_takes 175 = .ok (.iinc 5 (-1), 3) := by decide +kernel
theorem dX12_takes_178 : decode cX12_takes 178 = .ok (.goto (-173), 3) := by decide +kernel
theorem dX12_takes_181 : decode cX12_takes 181 = .ok (.aload_n 0, 1) := by decide +kernel
theorem dX12_takes_182 : decode cX12_takes 182 = .ok (.lload_n 3, 1) := by decide +kernel
theorem dX12_takes_183 : decode cX12_takes 183 = .ok (.l2i, 1) := by decide +kernel
theorem dX12_takes_184 : decode cX12_takes 184 = .ok (.putfield 157, 3) := by decide +kernel
theorem dX12_takes_187 : decode cX12_takes 187 = .ok (.return_, 1) := by decide +kernel
theorem dX12_through_0 : decode cX12_through 0 = .ok (.iload_n 1, 1) := by decide +kernel
theorem dX12_through_1 : decode cX12_through 1 = .ok (.invokestatic 452, 3) := by decide +kernel
theorem dX12_through_4 : decode cX12_through 4 = .ok (.ifCond .eq 21, 3) := by decide +kernel
theorem dX12_through_7 : decode cX12_through 7 = .ok (.aload_n 0, 1) := by decide +kernel
theorem dX12_through_8 : decode cX12_through 8 = .ok (.getfield 140, 3) := by decide +kernel
theorem dX12_through_11 : decode cX12_through 11 = .ok (.iload_n 1, 1) := by decide +kernel
theorem dX12_through_12 : decode cX12_through 12 = .ok (.iaload, 1) := by decide +kernel
theorem dX12_through_13 : decode cX12_through 13 = .ok (.ifCond .eq 12, 3) := by decide +kernel
theorem dX12_through_16 : decode cX12_through 16 = .ok (.iload_n 2, 1) := by decide +kernel
theorem dX12_through_17 : decode cX12_through 17 = .ok (.iconst 0, 1) := by decide +kernel
theorem dX12_through_18 : decode cX12_through 18 = .ok (.iconst 1, 1) := by decide +kernel
theorem dX12_through_19 : decode cX12_through 19 = .ok (.invokestatic 1, 3) := by decide +kernel
theorem dX12_through_22 : decode cX12_through 22 = .ok (.ifCond .ne 5, 3) := by decide +kernel
theorem dX12_through_25 : decode cX12_through 25 = .ok (.iconst (-1), 1) := by decide +kernel
theorem dX12_through_26 : decode cX12_through 26 = .ok (.ireturn, 1) := by decide +kernel
theorem dX12_through_27 : decode cX12_through 27 = .ok (.iconst (-1), 1) := by decide +kernel
theorem dX12_through_28 : decode cX12_through 28 = .ok (.istore_n 3, 1) := by decide +kernel
theorem dX12_through_29 : decode cX12_through 29 = .ok (.iconst 0, 1) := by decide +kernel
theorem dX12_through_30 : decode cX12_through 30 = .ok (.istore 4, 2) := by decide +kernel
theorem dX12_through_32 : decode cX12_through 32 = .ok (.iconst 0, 1) := by decide +kernel
theorem dX12_through_33 : decode cX12_through 33 = .ok (.istore 5, 2) := by decide +kernel
theorem dX12_through_35 : decode cX12_through 35 = .ok (.iload 5, 2) := by decide +kernel
theorem dX12_through_37 : decode cX12_through 37 = .ok (.bipush 36, 2) := by decide +kernel
theorem dX12_through_39 : decode cX12_through 39 = .ok (.if_icmp .ge 46, 3) := by decide +kernel
theorem dX12_through_42 : decode cX12_through 42 = .ok (.aload_n 0, 1) := by decide +kernel
theorem dX12_through_43 : decode cX12_through 43 = .ok (.iload_n 1, 1) := by decide +kernel
theorem dX12_through_44 : decode cX12_through 44 = .ok (.iload 5, 2) := by decide +kernel
theorem dX12_through_46 : decode cX12_through 46 = .ok (.invokevirtual 476, 3) := by decide +kernel
theorem dX12_through_49 : decode cX12_through 49 = .ok (.istore 6, 2) := by decide +kernel
theorem dX12_through_51 : decode cX12_through 51 = .ok (.iload 6, 2) := by decide +kernel
theorem dX12_through_53 : decode cX12_through 53 = .ok (.iconst (-1), 1) := by decide +kernel
theorem dX12_through_54 : decode cX12_through 54 = .ok (.if_icmp .eq 25, 3) := by decide +kernel
theorem dX12_through_57 : decode cX12_through 57 = .ok (.iload_n 3, 1) := by decide +kernel
theorem dX12_through_58 : decode cX12_through 58 = .ok (.iconst (-1), 1) := by decide +kernel
theorem dX12_through_59 : decode cX12_through 59 = .ok (.if_icmp .eq 13, 3) := by decide +kernel
theorem dX12_through_62 : decode cX12_through 62 = .ok (.iload 6, 2) := by decide +kernel
theorem dX12_through_64 : decode cX12_through 64 = .ok (.iload 4, 2) := by decide +kernel
theorem dX12_through_66 : decode cX12_through 66 = .ok (.if_icmp .lt 6, 3) := by decide +kernel
theorem dX12_through_69 : decode cX12_through 69 = .ok (.goto 10, 3) := by decide +kernel
theorem dX12_through_72 : decode cX12_through 72 = .ok (.iload 5, 2) := by decide +kernel
theorem dX12_through_74 : decode cX12_through 74 = .ok (.istore_n 3, 1) := by decide +kernel
theorem dX12_through_75 : decode cX12_through 75 = .ok (.iload 6, 2) := by decide +kernel
theorem dX12_through_77 : decode cX12_through 77 = .ok (.istore 4, 2) := by decide +kernel
theorem dX12_through_79 : decode cX12_through 79 = .ok (.iinc 5 1, 3) := by decide +kernel
theorem dX12_through_82 : decode cX12_through 82 = .ok (.goto (-47), 3) := by decide +kernel
theorem dX12_through_85 : decode cX12_through 85 = .ok (.iload_n 3, 1) := by decide +kernel
theorem dX12_through_86 : decode cX12_through 86 = .ok (.iconst (-1), 1) := by decide +kernel
theorem dX12_through_87 : decode cX12_through 87 = .ok (.if_icmp .eq 7, 3) := by decide +kernel
theorem dX12_through_90 : decode cX12_through 90 = .ok (.iload_n 2, 1) := by decide +kernel
theorem dX12_through_91 : decode cX12_through 91 = .ok (.ifCond .ne 15, 3) := by decide +kernel
theorem dX12_through_94 : decode cX12_through 94 = .ok (.iload_n 3, 1) := by decide +kernel
theorem dX12_through_95 : decode cX12_through 95 = .ok (.iconst (-1), 1) := by decide +kernel
theorem dX12_through_96 : decode cX12_through 96 = .ok (.if_icmp .ne 7, 3) := by decide +kernel
theorem dX12_through_99 : decode cX12_through 99 = .ok (.iconst (-1), 1) := by decide +kernel
theorem dX12_through_100 : decode cX12_through 100 = .ok (.goto 5, 3) := by decide +kernel
theorem dX12_through_103 : decode cX12_through 103 = .ok (.iload 4, 2) := by decide +kernel
theorem dX12_through_105 : decode cX12_through 105 = .ok (.ireturn, 1) := by decide +kernel
theorem dX12_through_106 : decode cX12_through 106 = .ok (.iconst 0, 1) := by decide +kernel
theorem dX12_through_107 : decode cX12_through 107 = .ok (.istore 5, 2) := by decide +kernel
theorem dX12_through_109 : decode cX12_through 109 = .ok (.iconst 0, 1) := by decide +kernel
theorem dX12_through_110 : decode cX12_through 110 = .ok (.istore 6, 2) := by decide +kernel
theorem dX12_through_112 : decode cX12_through 112 = .ok (.iload 6, 2) := by decide +kernel
theorem dX12_through_114 : decode cX12_through 114 = .ok (.iconst 3, 1) := by decide +kernel
theorem dX12_through_115 : decode cX12_through 115 = .ok (.if_icmp .ge 27, 3) := by decide +kernel
theorem dX12_through_118 : decode cX12_through 118 = .ok (.bipush 10, 2) := by decide +kernel
theorem dX12_through_120 : decode cX12_through 120 = .ok (.iload 5, 2) := by decide +kernel
theorem dX12_through_122 : decode cX12_through 122 = .ok (.imul, 1) := by decide +kernel
theorem dX12_through_123 : decode cX12_through 123 = .ok (.aload_n 0, 1) := by decide +kernel
theorem dX12_through_124 : decode cX12_through 124 = .ok (.iload_n 3, 1) := by decide +kernel
theorem dX12_through_125 : decode cX12_through 125 = .ok (.bipush 6, 2) := by decide +kernel
theorem dX12_through_127 : decode cX12_through 127 = .ok (.idiv, 1) := by decide +kernel
theorem dX12_through_128 : decode cX12_through 128 = .ok (.iload 6, 2) := by decide +kernel
theorem dX12_through_130 : decode cX12_through 130 = .ok (.invokevirtual 445, 3) := by decide +kernel
theorem dX12_through_133 : decode cX12_through 133 = .ok (.iadd, 1) := by decide +kernel
theorem dX12_through_134 : decode cX12_through 134 = .ok (.istore 5, 2) := by decide +kernel
theorem dX12_through_136 : decode cX12_through 136 = .ok (.iinc 6 1, 3) := by decide +kernel
theorem dX12_through_139 : decode cX12_through 139 = .ok (.goto (-27), 3) := by decide +kernel
theorem dX12_through_142 : decode cX12_through 142 = .ok (.iconst 0, 1) := by decide +kernel
theorem dX12_through_143 : decode cX12_through 143 = .ok (.istore 6, 2) := by decide +kernel
theorem dX12_through_145 : decode cX12_through 145 = .ok (.iload 6, 2) := by decide +kernel
theorem dX12_through_147 : decode cX12_through 147 = .ok (.iconst 3, 1) := by decide +kernel
theorem dX12_through_148 : decode cX12_through 148 = .ok (.if_icmp .ge 27, 3) := by decide +kernel
theorem dX12_through_151 : decode cX12_through 151 = .ok (.bipush 10, 2) := by decide +kernel
theorem dX12_through_153 : decode cX12_through 153 = .ok (.iload 5, 2) := by decide +kernel
theorem dX12_through_155 : decode cX12_through 155 = .ok (.imul, 1) := by decide +kernel
theorem dX12_through_156 : decode cX12_through 156 = .ok (.aload_n 0, 1) := by decide +kernel
theorem dX12_through_157 : decode cX12_through 157 = .ok (.iload_n 3, 1) := by decide +kernel
theorem dX12_through_158 : decode cX12_through 158 = .ok (.bipush 6, 2) := by decide +kernel
theorem dX12_through_160 : decode cX12_through 160 = .ok (.irem, 1) := by decide +kernel
theorem dX12_through_161 : decode cX12_through 161 = .ok (.iload 6, 2) := by decide +kernel
theorem dX12_through_163 : decode cX12_through 163 = .ok (.invokevirtual 445, 3) := by decide +kernel
theorem dX12_through_166 : decode cX12_through 166 = .ok (.iadd, 1) := by decide +kernel
theorem dX12_through_167 : decode cX12_through 167 = .ok (.istore 5, 2) := by decide +kernel
theorem dX12_through_169 : decode cX12_through 169 = .ok (.iinc 6 1, 3) := by decide +kernel
theorem dX12_through_172 : decode cX12_through 172 = .ok (.goto (-27), 3) := by decide +kernel
theorem dX12_through_175 : decode cX12_through 175 = .ok (.iload 5, 2) := by decide +kernel
theorem dX12_through_177 : decode cX12_through 177 = .ok (.ireturn, 1) := by decide +kernel
theorem dX12_ties_0 : decode cX12_ties 0 = .ok (.aload_n 0, 1) := by decide +kernel
theorem dX12_ties_1 : decode cX12_ties 1 = .ok (.getfield 51, 3) := by decide +kernel
theorem dX12_ties_4 : decode cX12_ties 4 = .ok (.iload_n 1, 1) := by decide +kernel
theorem dX12_ties_5 : decode cX12_ties 5 = .ok (.iaload, 1) := by decide +kernel
theorem dX12_ties_6 : decode cX12_ties 6 = .ok (.bipush 100, 2) := by decide +kernel
theorem dX12_ties_8 : decode cX12_ties 8 = .ok (.irem, 1) := by decide +kernel
theorem dX12_ties_9 : decode cX12_ties 9 = .ok (.istore_n 2, 1) := by decide +kernel
theorem dX12_ties_10 : decode cX12_ties 10 = .ok (.aload_n 0, 1) := by decide +kernel
theorem dX12_ties_11 : decode cX12_ties 11 = .ok (.aload_n 0, 1) := by decide +kernel
theorem dX12_ties_12 : decode cX12_ties 12 = .ok (.getfield 54, 3) := by decide +kernel
theorem dX12_ties_15 : decode cX12_ties 15 = .ok (.iload_n 1, 1) := by decide +kernel
theorem dX12_ties_16 : decode cX12_ties 16 = .ok (.iaload, 1) := by decide +kernel
theorem dX12_ties_17 : decode cX12_ties 17 = .ok (.invokevirtual 383, 3) := by decide +kernel
theorem dX12_ties_20 : decode cX12_ties 20 = .ok (.istore_n 3, 1) := by decide +kernel
theorem dX12_ties_21 : decode cX12_ties 21 = .ok (.aload_n 0, 1) := by decide +kernel
theorem dX12_ties_22 : decode cX12_ties 22 = .ok (.aload_n 0, 1) := by decide +kernel
theorem dX12_ties_23 : decode cX12_ties 23 = .ok (.getfield 57, 3) := by decide +kernel
theorem dX12_ties_26 : decode cX12_ties 26 = .ok (.iload_n 1, 1) := by decide +kernel
theorem dX12_ties_27 : decode cX12_ties 27 = .ok (.iaload, 1) := by decide +kernel
theorem dX12_ties_28 : decode cX12_ties 28 = .ok (.invokevirtual 383, 3) := by decide +kernel
theorem dX12_ties_31 : decode cX12_ties 31 = .ok (.istore 4, 2) := by decide +kernel
theorem dX12_ties_33 : decode cX12_ties 33 = .ok (.iload_n 2, 1) := by decide +kernel
theorem dX12_ties_34 : decode cX12_ties 34 = .ok (.iconst 2, 1) := by decide +kernel
theorem dX12_ties_35 : decode cX12_ties 35 = .ok (.if_icmp .ne 13, 3) := by decide +kernel
theorem dX12_ties_38 : decode cX12_ties 38 = .ok (.aload_n 0, 1) := by decide +kernel
theorem dX12_ties_39 : decode cX12_ties 39 = .ok (.getfield 20, 3) := by decide +kernel
theorem dX12_ties_42 : decode cX12_ties 42 = .ok (.aload_n 0, 1) := by decide +kernel
theorem dX12_ties_43 : decode cX12_ties 43 = .ok (.getfield 370, 3) := by decide +kernel
theorem dX12_ties_46 : decode cX12_ties 46 = .ok (.iload_n 3, 1) := by decide +kernel
theorem dX12_ties_47 : decode cX12_ties 47 = .ok (.iastore, 1) := by decide +kernel
theorem dX12_ties_48 : decode cX12_ties 48 = .ok (.iload_n 2, 1) := by decide +kernel
theorem dX12_ties_49 : decode cX12_ties 49 = .ok (.iconst 4, 1) := by decide +kernel
theorem dX12_ties_50 : decode cX12_ties 50 = .ok (.if_icmp .eq 8, 3) := by decide +kernel
theorem dX12_ties_53 : decode cX12_ties 53 = .ok (.iload_n 2, 1) := by decide +kernel
theorem dX12_ties_54 : decode cX12_ties 54 = .ok (.iconst 5, 1) := by decide +kernel
theorem dX12_ties_55 : decode cX12_ties 55 = .ok (.if_icmp .ne 46, 3) := by decide +kernel
theorem dX12_ties_58 : decode cX12_ties 58 = .ok (.aload_n 0, 1) := by decide +kernel
theorem dX12_ties_59 : decode cX12_ties 59 = .ok (.getfield 23, 3) := by decide +kernel
theorem dX12_ties_62 : decode cX12_ties 62 = .ok (.iconst 3, 1) := by decide +kernel
theorem dX12_ties_63 : decode cX12_ties 63 = .ok (.iload_n 3, 1) := by decide +kernel
theorem dX12_ties_64 : decode cX12_ties 64 = .ok (.imul, 1) := by decide +kernel
theorem dX12_ties_65 : decode cX12_ties 65 = .ok (.iload 4, 2) := by decide +kernel
theorem dX12_ties_67 : decode cX12_ties 67 = .ok (.iadd, 1) := by decide +kernel
theorem dX12_ties_68 : decode cX12_ties 68 = .ok (.iload_n 2, 1) := by decide +kernel
theorem dX12_ties_69 : decode cX12_ties 69 = .ok (.iconst 4, 1) := by decide +kernel
theorem dX12_ties_70 : decode cX12_ties 70 = .ok (.if_icmp .ne 7, 3) := by decide +kernel
theorem dX12_ties_73 : decode cX12_ties 73 = .ok (.iconst 1, 1) := by decide +kernel
theorem dX12_ties_74 : decode cX12_ties 74 = .ok (.goto 4, 3) := by decide +kernel
theorem dX12_ties_77 : decode cX12_ties 77 = .ok (.iconst 0, 1) := by decide +kernel
theorem dX12_ties_78 : decode cX12_ties 78 = .ok (.bastore, 1) := by decide +kernel
theorem dX12_ties_79 : decode cX12_ties 79 = .ok (.aload_n 0, 1) := by decide +kernel
theorem dX12_ties_80 : decode cX12_ties 80 = .ok (.getfield 23, 3) := by decide +kernel
theorem dX12_ties_83 : decode cX12_ties 83 = .ok (.iconst 3, 1) := by decide +kernel
theorem dX12_ties_84 : decode cX12_ties 84 = .ok (.iload 4, 2) := by decide +kernel
theorem dX12_ties_86 : decode cX12_ties 86 = .ok (.imul, 1) := by decide +kernel
theorem dX12_ties_87 : decode cX12_ties 87 = .ok (.iload_n 3, 1) := by decide +kernel
theorem dX12_ties_88 : decode cX12_ties 88 = .ok (.iadd, 1) := by decide +kernel
theorem dX12_ties_89 : decode cX12_ties 89 = .ok (.aload_n 0, 1) := by decide +kernel
theorem dX12_ties_90 : decode cX12_ties 90 = .ok (.getfield 23, 3) := by decide +kernel
theorem dX12_ties_93 : decode cX12_ties 93 = .ok (.iconst 3, 1) := by decide +kernel
theorem dX12_ties_94 : decode cX12_ties 94 = .ok (.iload_n 3, 1) := by decide +kernel
theorem dX12_ties_95 : decode cX12_ties 95 = .ok (.imul, 1) := by decide +kernel
theorem dX12_ties_96 : decode cX12_ties 96 = .ok (.iload 4, 2) := by decide +kernel
theorem dX12_ties_98 : decode cX12_ties 98 = .ok (.iadd, 1) := by decide +kernel
theorem dX12_ties_99 : decode cX12_ties 99 = .ok (.baload, 1) := by decide +kernel
theorem dX12_ties_100 : decode cX12_ties 100 = .ok (.bastore, 1) := by decide +kernel
theorem dX12_ties_101 : decode cX12_ties 101 = .ok (.iload_n 2, 1) := by decide +kernel
theorem dX12_ties_102 : decode cX12_ties 102 = .ok (.bipush 6, 2) := by decide +kernel
theorem dX12_ties_104 : decode cX12_ties 104 = .ok (.if_icmp .ne 15, 3) := by decide +kernel
theorem dX12_ties_107 : decode cX12_ties 107 = .ok (.aload_n 0, 1) := by decide +kernel
theorem dX12_ties_108 : decode cX12_ties 108 = .ok (.getfield 27, 3) := by decide +kernel
theorem dX12_ties_111 : decode cX12_ties 111 = .ok (.iconst 3, 1) := by decide +kernel
theorem dX12_ties_112 : decode cX12_ties 112 = .ok (.iload_n 3, 1) := by decide +kernel
theorem dX12_ties_113 : decode cX12_ties 113 = .ok (.imul, 1) := by decide +kernel
theorem dX12_ties_114 : decode cX12_ties 114 = .ok (.iload 4, 2) := by decide +kernel
theorem dX12_ties_116 : decode cX12_ties 116 = .ok (.iadd, 1) := by decide +kernel
theorem dX12_ties_117 : decode cX12_ties 117 = .ok (.iconst 1, 1) := by decide +kernel
theorem dX12_ties_118 : decode cX12_ties 118 = .ok (.bastore, 1) := by decide +kernel
theorem dX12_ties_119 : decode cX12_ties 119 = .ok (.return_, 1) := by decide +kernel
theorem dX12_told_0 : decode cX12_told 0 = .ok (.aload_n 0, 1) := by decide +kernel
theorem dX12_told_1 : decode cX12_told 1 = .ok (.aload_n 0, 1) := by decide +kernel
theorem dX12_told_2 : decode cX12_told 2 = .ok (.invokevirtual 149, 3) := by decide +kernel
theorem dX12_told_5 : decode cX12_told 5 = .ok (.putfield 153, 3) := by decide +kernel
theorem dX12_told_8 : decode cX12_told 8 = .ok (.iconst 1, 1) := by decide +kernel
theorem dX12_told_9 : decode cX12_told 9 = .ok (.ireturn, 1) := by decide +kernel
theorem dX12_unit_0 : decode cX12_unit 0 = .ok (.aload_n 0, 1) := by decide +kernel
theorem dX12_unit_1 : decode cX12_unit 1 = .ok (.getfield 242, 3) := by decide +kernel
theorem dX12_unit_4 : decode cX12_unit 4 = .ok (.istore_n 1, 1) := by decide +kernel
theorem dX12_unit_5 : decode cX12_unit 5 = .ok (.iload_n 1, 1) := by decide +kernel
theorem dX12_unit_6 : decode cX12_unit 6 = .ok (.iconst 2, 1) := by decide +kernel
theorem dX12_unit_7 : decode cX12_unit 7 = .ok (.if_icmp .eq 10, 3) := by decide +kernel
theorem dX12_unit_10 : decode cX12_unit 10 = .ok (.iload_n 1, 1) := by decide +kernel
theorem dX12_unit_11 : decode cX12_unit 11 = .ok (.sipush 311, 3) := by decide +kernel
theorem dX12_unit_14 : decode cX12_unit 14 = .ok (.if_icmp .ne 30, 3) := by decide +kernel
theorem dX12_unit_17 : decode cX12_unit 17 = .ok (.aload_n 0, 1) := by decide +kernel
theorem dX12_unit_18 : decode cX12_unit 18 = .ok (.iload_n 1, 1) := by decide +kernel
theorem dX12_unit_19 : decode cX12_unit 19 = .ok (.sipush 311, 3) := by decide +kernel
theorem dX12_unit_22 : decode cX12_unit 22 = .ok (.if_icmp .ne 8, 3) := by decide +kernel
theorem dX12_unit_25 : decode cX12_unit 25 = .ok (.bipush 7, 2) := by decide +kernel
theorem dX12_unit_27 : decode cX12_unit 27 = .ok (.goto 4, 3) := by decide +kernel
theorem dX12_unit_30 : decode cX12_unit 30 = .ok (.iconst 0, 1) := by decide +kernel
theorem dX12_unit_31 : decode cX12_unit 31 = .ok (.aload_n 0, 1) := by decide +kernel
theorem dX12_unit_32 : decode cX12_unit 32 = .ok (.getfield 254, 3) := by decide +kernel
theorem dX12_unit_35 : decode cX12_unit 35 = .ok (.invokevirtual 288, 3) := by decide +kernel
theorem dX12_unit_38 : decode cX12_unit 38 = .ok (.aload_n 0, 1) := by decide +kernel
theorem dX12_unit_39 : decode cX12_unit 39 = .ok (.invokevirtual 266, 3) := by decide +kernel
theorem dX12_unit_42 : decode cX12_unit 42 = .ok (.iconst 1, 1) := by decide +kernel
theorem dX12_unit_43 : decode cX12_unit 43 = .ok (.ireturn, 1) := by decide +kernel
theorem dX12_unit_44 : decode cX12_unit 44 = .ok (.iload_n 1, 1) := by decide +kernel
theorem dX12_unit_45 : decode cX12_unit 45 = .ok (.sipush 304, 3) := by decide +kernel
theorem dX12_unit_48 : decode cX12_unit 48 = .ok (.if_icmp .ne 7, 3) := by decide +kernel
theorem dX12_unit_51 : decode cX12_unit 51 = .ok (.iconst 1, 1) := by decide +kernel
theorem dX12_unit_52 : decode cX12_unit 52 = .ok (.goto 60, 3) := by decide +kernel
theorem dX12_unit_55 : decode cX12_unit 55 = .ok (.iload_n 1, 1) := by decide +kernel
theorem dX12_unit_56 : decode cX12_unit 56 = .ok (.sipush 305, 3) := by decide +kernel
theorem dX12_unit_59 : decode cX12_unit 59 = .ok (.if_icmp .ne 7, 3) := by decide +kernel
theorem dX12_unit_62 : decode cX12_unit 62 = .ok (.iconst 2, 1) := by decide +kernel
theorem dX12_unit_63 : decode cX12_unit 63 = .ok (.goto 49, 3) := by decide +kernel
theorem dX12_unit_66 : decode cX12_unit 66 = .ok (.iload_n 1, 1) := by decide +kernel
theorem dX12_unit_67 : decode cX12_unit 67 = .ok (.sipush 308, 3) := by decide +kernel
theorem dX12_unit_70 : decode cX12_unit 70 = .ok (.if_icmp .ne 7, 3) := by decide +kernel
theorem dX12_unit_73 : decode cX12_unit 73 = .ok (.iconst 3, 1) := by decide +kernel
theorem dX12_unit_74 : decode cX12_unit 74 = .ok (.goto 38, 3) := by decide +kernel
theorem dX12_unit_77 : decode cX12_unit 77 = .ok (.iload_n 1, 1) := by decide +kernel
theorem dX12_unit_78 : decode cX12_unit 78 = .ok (.sipush 315, 3) := by decide +kernel
theorem dX12_unit_81 : decode cX12_unit 81 = .ok (.if_icmp .ne 7, 3) := by decide +kernel
theorem dX12_unit_84 : decode cX12_unit 84 = .ok (.iconst 4, 1) := by decide +kernel
theorem dX12_unit_85 : decode cX12_unit 85 = .ok (.goto 27, 3) := by decide +kernel
theorem dX12_unit_88 : decode cX12_unit 88 = .ok (.iload_n 1, 1) := by decide +kernel
theorem dX12_unit_89 : decode cX12_unit 89 = .ok (.sipush 316, 3) := by decide +kernel
theorem dX12_unit_92 : decode cX12_unit 92 = .ok (.if_icmp .ne 7, 3) := by decide +kernel
theorem dX12_unit_95 : decode cX12_unit 95 = .ok (.iconst 5, 1) := by decide +kernel
theorem dX12_unit_96 : decode cX12_unit 96 = .ok (.goto 16, 3) := by decide +kernel
theorem dX12_unit_99 : decode cX12_unit 99 = .ok (.iload_n 1, 1) := by decide +kernel
theorem dX12_unit_100 : decode cX12_unit 100 = .ok (.sipush 317, 3) := by decide +kernel
theorem dX12_unit_103 : decode cX12_unit 103 = .ok (.if_icmp .ne 8, 3) := by decide +kernel
theorem dX12_unit_106 : decode cX12_unit 106 = .ok (.bipush 6, 2) := by decide +kernel
theorem dX12_unit_108 : decode cX12_unit 108 = .ok (.goto 4, 3) := by decide +kernel
theorem dX12_unit_111 : decode cX12_unit 111 = .ok (.iconst (-1), 1) := by decide +kernel
theorem dX12_unit_112 : decode cX12_unit 112 = .ok (.istore_n 2, 1) := by decide +kernel
theorem dX12_unit_113 : decode cX12_unit 113 = .ok (.iload_n 2, 1) := by decide +kernel
theorem dX12_unit_114 : decode cX12_unit 114 = .ok (.iconst (-1), 1) := by decide +kernel
theorem dX12_unit_115 : decode cX12_unit 115 = .ok (.if_icmp .ne 9, 3) := by decide +kernel
theorem dX12_unit_118 : decode cX12_unit 118 = .ok (.aload_n 0, 1) := by decide +kernel
theorem dX12_unit_119 : decode cX12_unit 119 = .ok (.iconst 1, 1) := by decide +kernel
theorem dX12_unit_120 : decode cX12_unit 120 = .ok (.invokevirtual 263, 3) := by decide +kernel
theorem dX12_unit_123 : decode cX12_unit 123 = .ok (.ireturn, 1) := by decide +kernel
theorem dX12_unit_124 : decode cX12_unit 124 = .ok (.aload_n 0, 1) := by decide +kernel
theorem dX12_unit_125 : decode cX12_unit 125 = .ok (.invokevirtual 266, 3) := by decide +kernel
theorem dX12_unit_128 : decode cX12_unit 128 = .ok (.iload_n 2, 1) := by decide +kernel
theorem dX12_unit_129 : decode cX12_unit 129 = .ok (.iconst 2, 1) := by decide +kernel
theorem dX12_unit_130 : decode cX12_unit 130 = .ok (.if_icmp .eq 13, 3) := by decide +kernel
theorem dX12_unit_133 : decode cX12_unit 133 = .ok (.iload_n 2, 1) := by decide +kernel
theorem dX12_unit_134 : decode cX12_unit 134 = .ok (.iconst 3, 1) := by decide +kernel
theorem dX12_unit_135 : decode cX12_unit 135 = .ok (.if_icmp .eq 8, 3) := by decide +kernel
theorem dX12_unit_138 : decode cX12_unit 138 = .ok (.iload_n 2, 1) := by decide +kernel
theorem dX12_unit_139 : decode cX12_unit 139 = .ok (.iconst 4, 1) := by decide +kernel
theorem dX12_unit_140 : decode cX12_unit 140 = .ok (.if_icmp .ne 13, 3) := by decide +kernel
theorem dX12_unit_143 : decode cX12_unit 143 = .ok (.aload_n 0, 1) := by decide +kernel
theorem dX12_unit_144 : decode cX12_unit 144 = .ok (.invokevirtual 295, 3) := by decide +kernel
theorem dX12_unit_147 : decode cX12_unit 147 = .ok (.ifCond .ne 15, 3) := by decide +kernel
theorem dX12_unit_150 : decode cX12_unit 150 = .ok (.goto 10, 3) := by decide +kernel
theorem dX12_unit_153 : decode cX12_unit 153 = .ok (.aload_n 0, 1) := by decide +kernel
theorem dX12_unit_154 : decode cX12_unit 154 = .ok (.invokevirtual 276, 3) := by decide +kernel
theorem dX12_unit_157 : decode cX12_unit 157 = .ok (.ifCond .ne 5, 3) := by decide +kernel
theorem dX12_unit_160 : decode cX12_unit 160 = .ok (.iconst 0, 1) := by decide +kernel
theorem dX12_unit_161 : decode cX12_unit 161 = .ok (.ireturn, 1) := by decide +kernel
theorem dX12_unit_162 : decode cX12_unit 162 = .ok (.iload_n 2, 1) := by decide +kernel
theorem dX12_unit_163 : decode cX12_unit 163 = .ok (.iconst 5, 1) := by decide +kernel
theorem dX12_unit_164 : decode cX12_unit 164 = .ok (.if_icmp .ne 8, 3) := by decide +kernel
theorem dX12_unit_167 : decode cX12_unit 167 = .ok (.aload_n 0, 1) := by decide +kernel
theorem dX12_unit_168 : decode cX12_unit 168 = .ok (.iconst 1, 1) := by decide +kernel
theorem dX12_unit_169 : decode cX12_unit 169 = .ok (.putfield 298, 3) := by decide +kernel
theorem dX12_unit_172 : decode cX12_unit 172 = .ok (.aload_n 0, 1) := by decide +kernel
theorem dX12_unit_173 : decode cX12_unit 173 = .ok (.iload_n 2, 1) := by decide +kernel
theorem dX12_unit_174 : decode cX12_unit 174 = .ok (.aload_n 0, 1) := by decide +kernel
theorem dX12_unit_175 : decode cX12_unit 175 = .ok (.getfield 269, 3) := by decide +kernel
theorem dX12_unit_178 : decode cX12_unit 178 = .ok (.invokevirtual 288, 3) := by decide +kernel
theorem dX12_unit_181 : decode cX12_unit 181 = .ok (.iconst 1, 1) := by decide +kernel
theorem dX12_unit_182 : decode cX12_unit 182 = .ok (.ireturn, 1) := by decide +kernel
theorem dX12_whyNot_0 : decode cX12_whyNot 0 = .ok (.aload_n 0, 1) := by decide +kernel
theorem dX12_whyNot_1 : decode cX12_whyNot 1 = .ok (.iload_n 3, 1) := by decide +kernel
theorem dX12_whyNot_2 : decode cX12_whyNot 2 = .ok (.iload 4, 2) := by decide +kernel
theorem dX12_whyNot_4 : decode cX12_whyNot 4 = .ok (.invokevirtual 389, 3) := by decide +kernel
theorem dX12_whyNot_7 : decode cX12_whyNot 7 = .ok (.ifCond .ne 6, 3) := by decide +kernel
theorem dX12_whyNot_10 : decode cX12_whyNot 10 = .ok (.bipush 30, 2) := by decide +kernel
theorem dX12_whyNot_12 : decode cX12_whyNot 12 = .ok (.ireturn, 1) := by decide +kernel
theorem dX12_whyNot_13 : decode cX12_whyNot 13 = .ok (.aload_n 0, 1) := by decide +kernel
theorem dX12_whyNot_14 : decode cX12_whyNot 14 = .ok (.lload_n 1, 1) := by decide +kernel
theorem dX12_whyNot_15 : decode cX12_whyNot 15 = .ok (.invokevirtual 174, 3) := by decide +kernel
theorem dX12_whyNot_18 : decode cX12_whyNot 18 = .ok (.iload_n 3, 1) := by decide +kernel
theorem dX12_whyNot_19 : decode cX12_whyNot 19 = .ok (.bipush 64, 2) := by decide +kernel
theorem dX12_whyNot_21 : decode cX12_whyNot 21 = .ok (.idiv, 1) := by decide +kernel
theorem dX12_whyNot_22 : decode cX12_whyNot 22 = .ok (.istore 6, 2) := by decide +kernel
theorem dX12_whyNot_24 : decode cX12_whyNot 24 = .ok (.iconst 0, 1) := by decide +kernel
theorem dX12_whyNot_25 : decode cX12_whyNot 25 = .ok (.istore 7, 2) := by decide +kernel
theorem dX12_whyNot_27 : decode cX12_whyNot 27 = .ok (.iload 7, 2) := by decide +kernel
theorem dX12_whyNot_29 : decode cX12_whyNot 29 = .ok (.aload_n 0, 1) := by decide +kernel
theorem dX12_whyNot_30 : decode cX12_whyNot 30 = .ok (.getfield 39, 3) := by decide +kernel
theorem dX12_whyNot_33 : decode cX12_whyNot 33 = .ok (.iload 6, 2) := by decide +kernel
theorem dX12_whyNot_35 : decode cX12_whyNot 35 = .ok (.iaload, 1) := by decide +kernel
theorem dX12_whyNot_36 : decode cX12_whyNot 36 = .ok (.if_icmp .ge 49, 3) := by decide +kernel
theorem dX12_whyNot_39 : decode cX12_whyNot 39 = .ok (.aload_n 0, 1) := by decide +kernel
theorem dX12_whyNot_40 : decode cX12_whyNot 40 = .ok (.iload 6, 2) := by decide +kernel
theorem dX12_whyNot_42 : decode cX12_whyNot 42 = .ok (.bipush 6, 2) := by decide +kernel
theorem dX12_whyNot_44 : decode cX12_whyNot 44 = .ok (.idiv, 1) := by decide +kernel
theorem dX12_whyNot_45 : decode cX12_whyNot 45 = .ok (.aload_n 0, 1) := by decide +kernel
theorem dX12_whyNot_46 : decode cX12_whyNot 46 = .ok (.getfield 45, 3) := by decide +kernel
theorem dX12_whyNot_49 : decode cX12_whyNot 49 = .ok (.iconst 4, 1) := by decide +kernel
theorem dX12_whyNot_50 : decode cX12_whyNot 50 = .ok (.iload 6, 2) := by decide +kernel
theorem dX12_whyNot_52 : decode cX12_whyNot 52 = .ok (.imul, 1) := by decide +kernel
theorem dX12_whyNot_53 : decode cX12_whyNot 53 = .ok (.iload 7, 2) := by decide +kernel
theorem dX12_whyNot_55 : decode cX12_whyNot 55 = .ok (.iadd, 1) := by decide +kernel
theorem dX12_whyNot_56 : decode cX12_whyNot 56 = .ok (.iaload, 1) := by decide +kernel
theorem dX12_whyNot_57 : decode cX12_whyNot 57 = .ok (.aload_n 0, 1) := by decide +kernel
theorem dX12_whyNot_58 : decode cX12_whyNot 58 = .ok (.getfield 48, 3) := by decide +kernel
theorem dX12_whyNot_61 : decode cX12_whyNot 61 = .ok (.iconst 4, 1) := by decide +kernel
theorem dX12_whyNot_62 : decode cX12_whyNot 62 = .ok (.iload 6, 2) := by decide +kernel
theorem dX12_whyNot_64 : decode cX12_whyNot 64 = .ok (.imul, 1) := by decide +kernel
theorem dX12_whyNot_65 : decode cX12_whyNot 65 = .ok (.iload 7, 2) := by decide +kernel
theorem dX12_whyNot_67 : decode cX12_whyNot 67 = .ok (.iadd, 1) := by decide +kernel
theorem dX12_whyNot_68 : decode cX12_whyNot 68 = .ok (.iaload, 1) := by decide +kernel
theorem dX12_whyNot_69 : decode cX12_whyNot 69 = .ok (.invokevirtual 380, 3) := by decide +kernel
theorem dX12_whyNot_72 : decode cX12_whyNot 72 = .ok (.iconst 1, 1) := by decide +kernel
theorem dX12_whyNot_73 : decode cX12_whyNot 73 = .ok (.if_icmp .eq 6, 3) := by decide +kernel
theorem dX12_whyNot_76 : decode cX12_whyNot 76 = .ok (.iload 7, 2) := by decide +kernel
theorem dX12_whyNot_78 : decode cX12_whyNot 78 = .ok (.ireturn, 1) := by decide +kernel
theorem dX12_whyNot_79 : decode cX12_whyNot 79 = .ok (.iinc 7 1, 3) := by decide +kernel
theorem dX12_whyNot_82 : decode cX12_whyNot 82 = .ok (.goto (-55), 3) := by decide +kernel
theorem dX12_whyNot_85 : decode cX12_whyNot 85 = .ok (.iconst 0, 1) := by decide +kernel
theorem dX12_whyNot_86 : decode cX12_whyNot 86 = .ok (.istore 7, 2) := by decide +kernel
theorem dX12_whyNot_88 : decode cX12_whyNot 88 = .ok (.iload 7, 2) := by decide +kernel
theorem dX12_whyNot_90 : decode cX12_whyNot 90 = .ok (.aload_n 0, 1) := by decide +kernel
theorem dX12_whyNot_91 : decode cX12_whyNot 91 = .ok (.getfield 358, 3) := by decide +kernel
theorem dX12_whyNot_94 : decode cX12_whyNot 94 = .ok (.if_icmp .ge 62, 3) := by decide +kernel
theorem dX12_whyNot_97 : decode cX12_whyNot 97 = .ok (.iload 5, 2) := by decide +kernel
theorem dX12_whyNot_99 : decode cX12_whyNot 99 = .ok (.iload 7, 2) := by decide +kernel
theorem dX12_whyNot_101 : decode cX12_whyNot 101 = .ok (.ishr, 1) := by decide +kernel
theorem dX12_whyNot_102 : decode cX12_whyNot 102 = .ok (.iconst 1, 1) := by decide +kernel
theorem dX12_whyNot_103 : decode cX12_whyNot 103 = .ok (.iand, 1) := by decide +kernel
theorem dX12_whyNot_104 : decode cX12_whyNot 104 = .ok (.iconst 1, 1) := by decide +kernel
theorem dX12_whyNot_105 : decode cX12_whyNot 105 = .ok (.if_icmp .ne 45, 3) := by decide +kernel
theorem dX12_whyNot_108 : decode cX12_whyNot 108 = .ok (.aload_n 0, 1) := by decide +kernel
theorem dX12_whyNot_109 : decode cX12_whyNot 109 = .ok (.getfield 88, 3) := by decide +kernel
theorem dX12_whyNot_112 : decode cX12_whyNot 112 = .ok (.iload 7, 2) := by decide +kernel
theorem dX12_whyNot_114 : decode cX12_whyNot 114 = .ok (.iaload, 1) := by decide +kernel
theorem dX12_whyNot_115 : decode cX12_whyNot 115 = .ok (.iload 6, 2) := by decide +kernel
theorem dX12_whyNot_117 : decode cX12_whyNot 117 = .ok (.if_icmp .ne 33, 3) := by decide +kernel
theorem dX12_whyNot_120 : decode cX12_whyNot 120 = .ok (.aload_n 0, 1) := by decide +kernel
theorem dX12_whyNot_121 : decode cX12_whyNot 121 = .ok (.bipush 8, 2) := by decide +kernel
theorem dX12_whyNot_123 : decode cX12_whyNot 123 = .ok (.iload 7, 2) := by decide +kernel
theorem dX12_whyNot_125 : decode cX12_whyNot 125 = .ok (.iadd, 1) := by decide +kernel
theorem dX12_whyNot_126 : decode cX12_whyNot 126 = .ok (.iconst 0, 1) := by decide +kernel
theorem dX12_whyNot_127 : decode cX12_whyNot 127 = .ok (.aload_n 0, 1) := by decide +kernel
theorem dX12_whyNot_128 : decode cX12_whyNot 128 = .ok (.getfield 33, 3) := by decide +kernel
theorem dX12_whyNot_131 : decode cX12_whyNot 131 = .ok (.bipush 8, 2) := by decide +kernel
theorem dX12_whyNot_133 : decode cX12_whyNot 133 = .ok (.iload 7, 2) := by decide +kernel
theorem dX12_whyNot_135 : decode cX12_whyNot 135 = .ok (.iadd, 1) := by decide +kernel
theorem dX12_whyNot_136 : decode cX12_whyNot 136 = .ok (.iaload, 1) := by decide +kernel
theorem dX12_whyNot_137 : decode cX12_whyNot 137 = .ok (.invokevirtual 380, 3) := by decide +kernel
theorem dX12_whyNot_140 : decode cX12_whyNot 140 = .ok (.iconst 1, 1) := by decide +kernel
theorem dX12_whyNot_141 : decode cX12_whyNot 141 = .ok (.if_icmp .eq 9, 3) := by decide +kernel
theorem dX12_whyNot_144 : decode cX12_whyNot 144 = .ok (.bipush 10, 2) := by decide +kernel
theorem dX12_whyNot_146 : decode cX12_whyNot 146 = .ok (.iload 7, 2) := by decide +kernel
theorem dX12_whyNot_148 : decode cX12_whyNot 148 = .ok (.iadd, 1) := by decide +kernel
theorem dX12_whyNot_149 : decode cX12_whyNot 149 = .ok (.ireturn, 1) := by decide +kernel
theorem dX12_whyNot_150 : decode cX12_whyNot 150 = .ok (.iinc 7 1, 3) := by decide +kernel
theorem dX12_whyNot_153 : decode cX12_whyNot 153 = .ok (.goto (-65), 3) := by decide +kernel
theorem dX12_whyNot_156 : decode cX12_whyNot 156 = .ok (.aload_n 0, 1) := by decide +kernel
theorem dX12_whyNot_157 : decode cX12_whyNot 157 = .ok (.iload 6, 2) := by decide +kernel
theorem dX12_whyNot_159 : decode cX12_whyNot 159 = .ok (.invokevirtual 393, 3) := by decide +kernel
theorem dX12_whyNot_162 : decode cX12_whyNot 162 = .ok (.ifCond .ne 6, 3) := by decide +kernel
theorem dX12_whyNot_165 : decode cX12_whyNot 165 = .ok (.bipush 20, 2) := by decide +kernel
theorem dX12_whyNot_167 : decode cX12_whyNot 167 = .ok (.ireturn, 1) := by decide +kernel
theorem dX12_whyNot_168 : decode cX12_whyNot 168 = .ok (.aload_n 0, 1) := by decide +kernel
theorem dX12_whyNot_169 : decode cX12_whyNot 169 = .ok (.aload_n 0, 1) := by decide +kernel
theorem dX12_whyNot_170 : decode cX12_whyNot 170 = .ok (.invokevirtual 149, 3) := by decide +kernel
theorem dX12_whyNot_173 : decode cX12_whyNot 173 = .ok (.putfield 396, 3) := by decide +kernel
theorem dX12_whyNot_176 : decode cX12_whyNot 176 = .ok (.iconst (-1), 1) := by decide +kernel
theorem dX12_whyNot_177 : decode cX12_whyNot 177 = .ok (.ireturn, 1) := by decide +kernel
theorem dX12_word_0 : decode cX12_word 0 = .ok (.aload_n 0, 1) := by decide +kernel
theorem dX12_word_1 : decode cX12_word 1 = .ok (.ldc 201, 2) := by decide +kernel
theorem dX12_word_3 : decode cX12_word 3 = .ok (.invokevirtual 203, 3) := by decide +kernel
theorem dX12_word_6 : decode cX12_word 6 = .ok (.ifCond .eq 7, 3) := by decide +kernel
theorem dX12_word_9 : decode cX12_word 9 = .ok (.sipush 301, 3) := by decide +kernel
theorem dX12_word_12 : decode cX12_word 12 = .ok (.ireturn, 1) := by decide +kernel
theorem dX12_word_13 : decode cX12_word 13 = .ok (.aload_n 0, 1) := by decide +kernel
theorem dX12_word_14 : decode cX12_word 14 = .ok (.ldc 207, 2) := by decide +kernel
theorem dX12_word_16 : decode cX12_word 16 = .ok (.invokevirtual 203, 3) := by decide +kernel
theorem dX12_word_19 : decode cX12_word 19 = .ok (.ifCond .eq 7, 3) := by decide +kernel
theorem dX12_word_22 : decode cX12_word 22 = .ok (.sipush 302, 3) := by decide +kernel
theorem dX12_word_25 : decode cX12_word 25 = .ok (.ireturn, 1) := by decide +kernel
theorem dX12_word_26 : decode cX12_word 26 = .ok (.aload_n 0, 1) := by decide +kernel
theorem dX12_word_27 : decode cX12_word 27 = .ok (.ldc 209, 2) := by decide +kernel
theorem dX12_word_29 : decode cX12_word 29 = .ok (.invokevirtual 203, 3) := by decide +kernel
theorem dX12_word_32 : decode cX12_word 32 = .ok (.ifCond .eq 7, 3) := by decide +kernel
theorem dX12_word_35 : decode cX12_word 35 = .ok (.sipush 303, 3) := by decide +kernel
theorem dX12_word_38 : decode cX12_word 38 = .ok (.ireturn, 1) := by decide +kernel
theorem dX12_word_39 : decode cX12_word 39 = .ok (.aload_n 0, 1) := by decide +kernel
theorem dX12_word_40 : decode cX12_word 40 = .ok (.ldc 211, 2) := by decide +kernel
theorem dX12_word_42 : decode cX12_word 42 = .ok (.invokevirtual 203, 3) := by decide +kernel
theorem dX12_word_45 : decode cX12_word 45 = .ok (.ifCond .eq 7, 3) := by decide +kernel
theorem dX12_word_48 : decode cX12_word 48 = .ok (.sipush 304, 3) := by decide +kernel
theorem dX12_word_51 : decode cX12_word 51 = .ok (.ireturn, 1) := by decide +kernel
theorem dX12_word_52 : decode cX12_word 52 = .ok (.aload_n 0, 1) := by decide +kernel
theorem dX12_word_53 : decode cX12_word 53 = .ok (.ldc 212, 2) := by decide +kernel
theorem dX12_word_55 : decode cX12_word 55 = .ok (.invokevirtual 203, 3) := by decide +kernel
theorem dX12_word_58 : decode cX12_word 58 = .ok (.ifCond .eq 7, 3) := by decide +kernel
theorem dX12_word_61 : decode cX12_word 61 = .ok (.sipush 305, 3) := by decide +kernel
theorem dX12_word_64 : decode cX12_word 64 = .ok (.ireturn, 1) := by decide +kernel
theorem dX12_word_65 : decode cX12_word 65 = .ok (.aload_n 0, 1) := by decide +kernel
theorem dX12_word_66 : decode cX12_word 66 = .ok (.ldc 213, 2) := by decide +kernel
theorem dX12_word_68 : decode cX12_word 68 = .ok (.invokevirtual 203, 3) := by decide +kernel
theorem dX12_word_71 : decode cX12_word 71 = .ok (.ifCond .eq 7, 3) := by decide +kernel
theorem dX12_word_74 : decode cX12_word 74 = .ok (.sipush 306, 3) := by decide +kernel
theorem dX12_word_77 : decode cX12_word 77 = .ok (.ireturn, 1) := by decide +kernel
theorem dX12_word_78 : decode cX12_word 78 = .ok (.aload_n 0, 1) := by decide +kernel
theorem dX12_word_79 : decode cX12_word 79 = .ok (.ldc 215, 2) := by decide +kernel
theorem dX12_word_81 : decode cX12_word 81 = .ok (.invokevirtual 203, 3) := by decide +kernel
theorem dX12_word_84 : decode cX12_word 84 = .ok (.ifCond .eq 7, 3) := by decide +kernel
theorem dX12_word_87 : decode cX12_word 87 = .ok (.sipush 307, 3) := by decide +kernel
theorem dX12_word_90 : decode cX12_word 90 = .ok (.ireturn, 1) := by decide +kernel
theorem dX12_word_91 : decode cX12_word 91 = .ok (.aload_n 0, 1) := by decide +kernel
theorem dX12_word_92 : decode cX12_word 92 = .ok (.ldc 217, 2) := by decide +kernel
theorem dX12_word_94 : decode cX12_word 94 = .ok (.invokevirtual 203, 3) := by decide +kernel
theorem dX12_word_97 : decode cX12_word 97 = .ok (.ifCond .eq 7, 3) := by decide +kernel
theorem dX12_word_100 : decode cX12_word 100 = .ok (.sipush 308, 3) := by decide +kernel
theorem dX12_word_103 : decode cX12_word 103 = .ok (.ireturn, 1) := by decide +kernel
theorem dX12_word_104 : decode cX12_word 104 = .ok (.aload_n 0, 1) := by decide +kernel
theorem dX12_word_105 : decode cX12_word 105 = .ok (.ldc 218, 2) := by decide +kernel
theorem dX12_word_107 : decode cX12_word 107 = .ok (.invokevirtual 203, 3) := by decide +kernel
theorem dX12_word_110 : decode cX12_word 110 = .ok (.ifCond .eq 7, 3) := by decide +kernel
theorem dX12_word_113 : decode cX12_word 113 = .ok (.sipush 309, 3) := by decide +kernel
theorem dX12_word_116 : decode cX12_word 116 = .ok (.ireturn, 1) := by decide +kernel
theorem dX12_word_117 : decode cX12_word 117 = .ok (.aload_n 0, 1) := by decide +kernel
theorem dX12_word_118 : decode cX12_word 118 = .ok (.ldc 220, 2) := by decide +kernel
theorem dX12_word_120 : decode cX12_word 120 = .ok (.invokevirtual 203, 3) := by decide +kernel
theorem dX12_word_123 : decode cX12_word 123 = .ok (.ifCond .eq 7, 3) := by decide +kernel
theorem dX12_word_126 : decode cX12_word 126 = .ok (.sipush 310, 3) := by decide +kernel
theorem dX12_word_129 : decode cX12_word 129 = .ok (.ireturn, 1) := by decide +kernel
theorem dX12_word_130 : decode cX12_word 130 = .ok (.aload_n 0, 1) := by decide +kernel
theorem dX12_word_131 : decode cX12_word 131 = .ok (.ldc 222, 2) := by decide +kernel
theorem dX12_word_133 : decode cX12_word 133 = .ok (.invokevirtual 203, 3) := by decide +kernel
theorem dX12_word_136 : decode cX12_word 136 = .ok (.ifCond .eq 7, 3) := by decide +kernel
theorem dX12_word_139 : decode cX12_word 139 = .ok (.sipush 311, 3) := by decide +kernel
theorem dX12_word_142 : decode cX12_word 142 = .ok (.ireturn, 1) := by decide +kernel
theorem dX12_word_143 : decode cX12_word 143 = .ok (.aload_n 0, 1) := by decide +kernel
theorem dX12_word_144 : decode cX12_word 144 = .ok (.ldc 223, 2) := by decide +kernel
theorem dX12_word_146 : decode cX12_word 146 = .ok (.invokevirtual 203, 3) := by decide +kernel
theorem dX12_word_149 : decode cX12_word 149 = .ok (.ifCond .eq 7, 3) := by decide +kernel
theorem dX12_word_152 : decode cX12_word 152 = .ok (.sipush 312, 3) := by decide +kernel
theorem dX12_word_155 : decode cX12_word 155 = .ok (.ireturn, 1) := by decide +kernel
theorem dX12_word_156 : decode cX12_word 156 = .ok (.aload_n 0, 1) := by decide +kernel
theorem dX12_word_157 : decode cX12_word 157 = .ok (.ldc 225, 2) := by decide +kernel
theorem dX12_word_159 : decode cX12_word 159 = .ok (.invokevirtual 203, 3) := by decide +kernel
theorem dX12_word_162 : decode cX12_word 162 = .ok (.ifCond .eq 7, 3) := by decide +kernel
theorem dX12_word_165 : decode cX12_word 165 = .ok (.sipush 313, 3) := by decide +kernel
theorem dX12_word_168 : decode cX12_word 168 = .ok (.ireturn, 1) := by decide +kernel
theorem dX12_word_169 : decode cX12_word 169 = .ok (.aload_n 0, 1) := by decide +kernel
theorem dX12_word_170 : decode cX12_word 170 = .ok (.ldc 227, 2) := by decide +kernel
theorem dX12_word_172 : decode cX12_word 172 = .ok (.invokevirtual 203, 3) := by decide +kernel
theorem dX12_word_175 : decode cX12_word 175 = .ok (.ifCond .eq 7, 3) := by decide +kernel
theorem dX12_word_178 : decode cX12_word 178 = .ok (.sipush 314, 3) := by decide +kernel
theorem dX12_word_181 : decode cX12_word 181 = .ok (.ireturn, 1) := by decide +kernel
theorem dX12_word_182 : decode cX12_word 182 = .ok (.aload_n 0, 1) := by decide +kernel
theorem dX12_word_183 : decode cX12_word 183 = .ok (.ldc 229, 2) := by decide +kernel
theorem dX12_word_185 : decode cX12_word 185 = .ok (.invokevirtual 203, 3) := by decide +kernel
theorem dX12_word_188 : decode cX12_word 188 = .ok (.ifCond .eq 7, 3) := by decide +kernel
theorem dX12_word_191 : decode cX12_word 191 = .ok (.sipush 315, 3) := by decide +kernel
theorem dX12_word_194 : decode cX12_word 194 = .ok (.ireturn, 1) := by decide +kernel
theorem dX12_word_195 : decode cX12_word 195 = .ok (.aload_n 0, 1) := by decide +kernel
theorem dX12_word_196 : decode cX12_word 196 = .ok (.ldc 230, 2) := by decide +kernel
theorem dX12_word_198 : decode cX12_word 198 = .ok (.invokevirtual 203, 3) := by decide +kernel
theorem dX12_word_201 : decode cX12_word 201 = .ok (.ifCond .eq 7, 3) := by decide +kernel
theorem dX12_word_204 : decode cX12_word 204 = .ok (.sipush 316, 3) := by decide +kernel
theorem dX12_word_207 : decode cX12_word 207 = .ok (.ireturn, 1) := by decide +kernel
theorem dX12_word_208 : decode cX12_word 208 = .ok (.aload_n 0, 1) := by decide +kernel
theorem dX12_word_209 : decode cX12_word 209 = .ok (.ldc 232, 2) := by decide +kernel
theorem dX12_word_211 : decode cX12_word 211 = .ok (.invokevirtual 203, 3) := by decide +kernel
theorem dX12_word_214 : decode cX12_word 214 = .ok (.ifCond .eq 7, 3) := by decide +kernel
theorem dX12_word_217 : decode cX12_word 217 = .ok (.sipush 317, 3) := by decide +kernel
theorem dX12_word_220 : decode cX12_word 220 = .ok (.ireturn, 1) := by decide +kernel
theorem dX12_word_221 : decode cX12_word 221 = .ok (.aload_n 0, 1) := by decide +kernel
theorem dX12_word_222 : decode cX12_word 222 = .ok (.ldc 234, 2) := by decide +kernel
theorem dX12_word_224 : decode cX12_word 224 = .ok (.invokevirtual 203, 3) := by decide +kernel
theorem dX12_word_227 : decode cX12_word 227 = .ok (.ifCond .eq 7, 3) := by decide +kernel
theorem dX12_word_230 : decode cX12_word 230 = .ok (.sipush 318, 3) := by decide +kernel
theorem dX12_word_233 : decode cX12_word 233 = .ok (.ireturn, 1) := by decide +kernel
theorem dX12_word_234 : decode cX12_word 234 = .ok (.aload_n 0, 1) := by decide +kernel
theorem dX12_word_235 : decode cX12_word 235 = .ok (.ldc 236, 2) := by decide +kernel
theorem dX12_word_237 : decode cX12_word 237 = .ok (.invokevirtual 203, 3) := by decide +kernel
theorem dX12_word_240 : decode cX12_word 240 = .ok (.ifCond .eq 7, 3) := by decide +kernel
theorem dX12_word_243 : decode cX12_word 243 = .ok (.sipush 319, 3) := by decide +kernel
theorem dX12_word_246 : decode cX12_word 246 = .ok (.ireturn, 1) := by decide +kernel
theorem dX12_word_247 : decode cX12_word 247 = .ok (.aload_n 0, 1) := by decide +kernel
theorem dX12_word_248 : decode cX12_word 248 = .ok (.getfield 185, 3) := by decide +kernel
theorem dX12_word_251 : decode cX12_word 251 = .ok (.aload_n 0, 1) := by decide +kernel
theorem dX12_word_252 : decode cX12_word 252 = .ok (.getfield 188, 3) := by decide +kernel
theorem dX12_word_255 : decode cX12_word 255 = .ok (.isub, 1) := by decide +kernel
theorem dX12_word_256 : decode cX12_word 256 = .ok (.iconst 2, 1) := by decide +kernel
theorem dX12_word_257 : decode cX12_word 257 = .ok (.bipush 8, 2) := by decide +kernel
theorem dX12_word_259 : decode cX12_word 259 = .ok (.invokestatic 1, 3) := by decide +kernel
theorem dX12_word_262 : decode cX12_word 262 = .ok (.ifCond .eq 7, 3) := by decide +kernel
theorem dX12_word_265 : decode cX12_word 265 = .ok (.iconst 3, 1) := by decide +kernel
theorem dX12_word_266 : decode cX12_word 266 = .ok (.goto 4, 3) := by decide +kernel
theorem dX12_word_269 : decode cX12_word 269 = .ok (.iconst 1, 1) := by decide +kernel
theorem dX12_word_270 : decode cX12_word 270 = .ok (.ireturn, 1) := by decide +kernel
