set_option maxHeartbeats 4000000 in
set_option maxRecDepth 100000 in
theorem ch_X12_plainest_329 {p : Program} {l : Launch} {e : Env} {R : Room} {s : State} {m : MethodId} {args : Array Value} {below : List Frame} {meth : Method} {c : Code} {D : va_G} {cy : Nat → ClassId} {T0 tB tE : Nat} {A : Nat → Prop} {Q : State → Prop} {a : Nat → Nat} (S : GS)  (h_a_1_6 : ar S 1 6 = 0) (h_a_1_7 : ar S 1 7 = 0) (h_a_1_8 : ar S 1 8 = 0) (h_a_31_15 : ar S 31 15 = 2) (h_a_31_16 : ar S 31 16 = 1) (h_a_31_17 : ar S 31 17 = 0) (h_a_33_1 : ar S 33 1 = 0) (h_a_33_2 : ar S 33 2 = 0) (h_a_35_0 : ar S 35 0 = 0) (h_a_35_1 : ar S 35 1 = 0) (h_a_35_2 : ar S 35 2 = 0) (h_a_36_0 : ar S 36 0 = 0) (h_a_36_1 : ar S 36 1 = 0) (h_a_36_2 : ar S 36 2 = 0) (h_a_3_6 : ar S 3 6 = 0) (h_a_3_7 : ar S 3 7 = 0) (h_a_3_8 : ar S 3 8 = 0) (h_a_4_6 : ar S 4 6 = 0) (h_a_4_7 : ar S 4 7 = 0) (h_a_4_8 : ar S 4 8 = 0) (b : Bz p R s m args meth c D cy T0 tB tE A 9 cX12_plainest RX12 (some .long) "plainest" 2 47 0 0) (k : Z p l e R s m args below meth c D A 9 Q 0 0 (mw cy a (su (su (su S 34 0 3) 34 1 3) 34 2 3)) [(8, .int 6), (7, .int 2), (6, .int 0), (5, .int 32), (3, .long 1649317774848), (0, .ref (a 0)), (1, .long 1649317774848)] 275 []) : Z p l e R s m args below meth c D A 9 Q 0 0 (mw cy a (su (su (su S 34 0 3) 34 1 3) 34 2 3)) [(8, .int 8), (7, .int 0), (6, .int 0), (5, .int 32), (3, .long 1649317774848), (0, .ref (a 0)), (1, .long 1649317774848)] 236 [.int 0, .int 8, .ref (a 2)] := by
  refine y_iast (q0 := 2) (j := 8) b (mw_2 cy a (su (su (su S 34 0 3) 34 1 3) 34 2 3)) (by decide) dX12_plainest_236 ((mwa_2 cy a (su (su (su S 34 0 3) 34 1 3) 34 2 3) 8 0).trans (congrArg (mw cy a) (su_same h_a_1_8))) ?_
  refine z_aload_n b dX12_plainest_237 rfl rfl ?_
  refine z_get (q0 := 0) (k9 := 3) (v := .ref (a 4)) b (mw_0 cy a (su (su (su S 34 0 3) 34 1 3) 34 2 3)) rfl in_X12 (by decide) wf_X12_23 rfl dX12_plainest_238 ?_
  refine z_iload b dX12_plainest_241 rfl ?_
  refine z_aload_n b dX12_plainest_243 rfl rfl ?_
  refine z_get (q0 := 0) (k9 := 62) (v := .ref (a 37)) b (mw_0 cy a (su (su (su S 34 0 3) 34 1 3) 34 2 3)) rfl in_X12 (by decide) wf_X12_128 rfl dX12_plainest_244 ?_
  refine z_iconst (v := 3) b dX12_plainest_247 (by decide) ?_
  refine z_iload b dX12_plainest_248 rfl ?_
  refine z_imul (v := 0) b dX12_plainest_250 (by decide) ?_
  refine z_iload b dX12_plainest_251 rfl ?_
  refine z_iadd (v := 0) b dX12_plainest_253 (by decide) ?_
  refine y_zald (q0 := 37) (j := 0) (v := (ar (su (su (su S 34 0 3) 34 1 3) 34 2 3) 35 0)) b (mw_37 cy a (su (su (su S 34 0 3) 34 1 3) 34 2 3)) (by decide) rfl dX12_plainest_254 ?_
  refine z_eqi h_a_35_0 ?_
  refine y_zast (q0 := 4) (j := 8) b (mw_4 cy a (su (su (su S 34 0 3) 34 1 3) 34 2 3)) (by decide) (by decide) dX12_plainest_255 ((mwa_4 cy a (su (su (su S 34 0 3) 34 1 3) 34 2 3) 8 0).trans (congrArg (mw cy a) (su_same h_a_3_8))) ?_
  refine z_aload_n b dX12_plainest_256 rfl rfl ?_
  refine z_get (q0 := 0) (k9 := 4) (v := .ref (a 5)) b (mw_0 cy a (su (su (su S 34 0 3) 34 1 3) 34 2 3)) rfl in_X12 (by decide) wf_X12_27 rfl dX12_plainest_257 ?_
  refine z_iload b dX12_plainest_260 rfl ?_
  refine z_aload_n b dX12_plainest_262 rfl rfl ?_
  refine z_get (q0 := 0) (k9 := 63) (v := .ref (a 38)) b (mw_0 cy a (su (su (su S 34 0 3) 34 1 3) 34 2 3)) rfl in_X12 (by decide) wf_X12_131 rfl dX12_plainest_263 ?_
  refine z_iconst (v := 3) b dX12_plainest_266 (by decide) ?_
  refine z_iload b dX12_plainest_267 rfl ?_
  refine z_imul (v := 0) b dX12_plainest_269 (by decide) ?_
  refine z_iload b dX12_plainest_270 rfl ?_
  refine z_iadd (v := 0) b dX12_plainest_272 (by decide) ?_
  refine y_zald (q0 := 38) (j := 0) (v := (ar (su (su (su S 34 0 3) 34 1 3) 34 2 3) 36 0)) b (mw_38 cy a (su (su (su S 34 0 3) 34 1 3) 34 2 3)) (by decide) rfl dX12_plainest_273 ?_
  refine z_eqi h_a_36_0 ?_
  refine y_zast (q0 := 5) (j := 8) b (mw_5 cy a (su (su (su S 34 0 3) 34 1 3) 34 2 3)) (by decide) (by decide) dX12_plainest_274 ((mwa_5 cy a (su (su (su S 34 0 3) 34 1 3) 34 2 3) 8 0).trans (congrArg (mw cy a) (su_same h_a_4_8))) ?_
  refine z_iinc (k9 := 1) (v := 1) (lv' := [(7, .int 1), (8, .int 8), (6, .int 0), (5, .int 32), (3, .long 1649317774848), (0, .ref (a 0)), (1, .long 1649317774848)]) b dX12_plainest_275 rfl (by decide) (by decide) rfl ?_
  refine z_goto (tgt := 185) b dX12_plainest_278 (by decide) ?_
  refine z_iload b dX12_plainest_185 rfl ?_
  refine z_iconst (v := 3) b dX12_plainest_187 (by decide) ?_
  refine z_icmp_ge_f (tgt := 281) b dX12_plainest_188 (by decide) (by decide) ?_
  refine z_iconst (v := 3) b dX12_plainest_191 (by decide) ?_
  refine z_aload_n b dX12_plainest_192 rfl rfl ?_
  refine z_iload b dX12_plainest_193 rfl ?_
  refine z_bipush (v := 6) b dX12_plainest_195 (by decide) ?_
  refine z_idiv (v := 5) b dX12_plainest_197 (by decide) (by decide) ?_
  refine z_iload b dX12_plainest_198 rfl ?_
  refine z_calli b (z_runV (q0 := 0) (As := [.int 5, .int 0]) (st := [.int 3]) b (c_X12_renamed_17 (su (su (su S 34 0 3) 34 1 3) 34 2 3) h_a_31_15) cf_X12_renamed (mw_0 cy a (su (su (su S 34 0 3) 34 1 3) 34 2 3)) rfl wm_X12_445 wi_X12_renamed ws_X12_renamed dX12_plainest_200 rfl (Nat.le_of_ble_eq_true rfl) ⟨by decide, by decide, by decide, by decide⟩) (fun r11367 u11368 h11366 => ?_)
  obtain ⟨rfl, rfl⟩ := h11366
  refine z_imul (v := 6) b dX12_plainest_203 (by decide) ?_
  refine z_aload_n b dX12_plainest_204 rfl rfl ?_
  refine z_iload b dX12_plainest_205 rfl ?_
  refine z_bipush (v := 6) b dX12_plainest_207 (by decide) ?_
  refine z_idiv (v := 5) b dX12_plainest_209 (by decide) (by decide) ?_
  refine z_iload b dX12_plainest_210 rfl ?_
  refine z_calli b (z_runV (q0 := 0) (As := [.int 5, .int 1]) (st := [.int 6]) b (c_X12_renamed_18 (su (su (su S 34 0 3) 34 1 3) 34 2 3) h_a_31_16) cf_X12_renamed (mw_0 cy a (su (su (su S 34 0 3) 34 1 3) 34 2 3)) rfl wm_X12_445 wi_X12_renamed ws_X12_renamed dX12_plainest_212 rfl (Nat.le_of_ble_eq_true rfl) ⟨by decide, by decide, by decide, by decide⟩) (fun r11370 u11371 h11369 => ?_)
  obtain ⟨rfl, rfl⟩ := h11369
  refine z_iadd (v := 7) b dX12_plainest_215 (by decide) ?_
  refine z_istore (lv' := [(8, .int 7), (7, .int 1), (6, .int 0), (5, .int 32), (3, .long 1649317774848), (0, .ref (a 0)), (1, .long 1649317774848)]) b dX12_plainest_216 (by decide) rfl ?_
  refine z_aload_n b dX12_plainest_218 rfl rfl ?_
  refine z_get (q0 := 0) (k9 := 1) (v := .ref (a 2)) b (mw_0 cy a (su (su (su S 34 0 3) 34 1 3) 34 2 3)) rfl in_X12 (by decide) wf_X12_17 rfl dX12_plainest_219 ?_
  refine z_iload b dX12_plainest_222 rfl ?_
  refine z_aload_n b dX12_plainest_224 rfl rfl ?_
  refine z_get (q0 := 0) (k9 := 60) (v := .ref (a 35)) b (mw_0 cy a (su (su (su S 34 0 3) 34 1 3) 34 2 3)) rfl in_X12 (by decide) wf_X12_122 rfl dX12_plainest_225 ?_
  refine z_iconst (v := 3) b dX12_plainest_228 (by decide) ?_
  refine z_iload b dX12_plainest_229 rfl ?_
  refine z_imul (v := 0) b dX12_plainest_231 (by decide) ?_
  refine z_iload b dX12_plainest_232 rfl ?_
  refine z_iadd (v := 1) b dX12_plainest_234 (by decide) ?_
  refine y_iald (q0 := 35) (j := 1) (v := (ar (su (su (su S 34 0 3) 34 1 3) 34 2 3) 33 1)) b (mw_35 cy a (su (su (su S 34 0 3) 34 1 3) 34 2 3)) (by decide) rfl dX12_plainest_235 ?_
  refine z_eqi h_a_33_1 ?_
  refine y_iast (q0 := 2) (j := 7) b (mw_2 cy a (su (su (su S 34 0 3) 34 1 3) 34 2 3)) (by decide) dX12_plainest_236 ((mwa_2 cy a (su (su (su S 34 0 3) 34 1 3) 34 2 3) 7 0).trans (congrArg (mw cy a) (su_same h_a_1_7))) ?_
  refine z_aload_n b dX12_plainest_237 rfl rfl ?_
  refine z_get (q0 := 0) (k9 := 3) (v := .ref (a 4)) b (mw_0 cy a (su (su (su S 34 0 3) 34 1 3) 34 2 3)) rfl in_X12 (by decide) wf_X12_23 rfl dX12_plainest_238 ?_
  refine z_iload b dX12_plainest_241 rfl ?_
  refine z_aload_n b dX12_plainest_243 rfl rfl ?_
  refine z_get (q0 := 0) (k9 := 62) (v := .ref (a 37)) b (mw_0 cy a (su (su (su S 34 0 3) 34 1 3) 34 2 3)) rfl in_X12 (by decide) wf_X12_128 rfl dX12_plainest_244 ?_
  refine z_iconst (v := 3) b dX12_plainest_247 (by decide) ?_
  refine z_iload b dX12_plainest_248 rfl ?_
  refine z_imul (v := 0) b dX12_plainest_250 (by decide) ?_
  refine z_iload b dX12_plainest_251 rfl ?_
  refine z_iadd (v := 1) b dX12_plainest_253 (by decide) ?_
  refine y_zald (q0 := 37) (j := 1) (v := (ar (su (su (su S 34 0 3) 34 1 3) 34 2 3) 35 1)) b (mw_37 cy a (su (su (su S 34 0 3) 34 1 3) 34 2 3)) (by decide) rfl dX12_plainest_254 ?_
  refine z_eqi h_a_35_1 ?_
  refine y_zast (q0 := 4) (j := 7) b (mw_4 cy a (su (su (su S 34 0 3) 34 1 3) 34 2 3)) (by decide) (by decide) dX12_plainest_255 ((mwa_4 cy a (su (su (su S 34 0 3) 34 1 3) 34 2 3) 7 0).trans (congrArg (mw cy a) (su_same h_a_3_7))) ?_
  refine z_aload_n b dX12_plainest_256 rfl rfl ?_
  refine z_get (q0 := 0) (k9 := 4) (v := .ref (a 5)) b (mw_0 cy a (su (su (su S 34 0 3) 34 1 3) 34 2 3)) rfl in_X12 (by decide) wf_X12_27 rfl dX12_plainest_257 ?_
  refine z_iload b dX12_plainest_260 rfl ?_
  refine z_aload_n b dX12_plainest_262 rfl rfl ?_
  refine z_get (q0 := 0) (k9 := 63) (v := .ref (a 38)) b (mw_0 cy a (su (su (su S 34 0 3) 34 1 3) 34 2 3)) rfl in_X12 (by decide) wf_X12_131 rfl dX12_plainest_263 ?_
  refine z_iconst (v := 3) b dX12_plainest_266 (by decide) ?_
  refine z_iload b dX12_plainest_267 rfl ?_
  refine z_imul (v := 0) b dX12_plainest_269 (by decide) ?_
  refine z_iload b dX12_plainest_270 rfl ?_
  refine z_iadd (v := 1) b dX12_plainest_272 (by decide) ?_
  refine y_zald (q0 := 38) (j := 1) (v := (ar (su (su (su S 34 0 3) 34 1 3) 34 2 3) 36 1)) b (mw_38 cy a (su (su (su S 34 0 3) 34 1 3) 34 2 3)) (by decide) rfl dX12_plainest_273 ?_
  refine z_eqi h_a_36_1 ?_
  refine y_zast (q0 := 5) (j := 7) b (mw_5 cy a (su (su (su S 34 0 3) 34 1 3) 34 2 3)) (by decide) (by decide) dX12_plainest_274 ((mwa_5 cy a (su (su (su S 34 0 3) 34 1 3) 34 2 3) 7 0).trans (congrArg (mw cy a) (su_same h_a_4_7))) ?_
  refine z_iinc (k9 := 1) (v := 2) (lv' := [(7, .int 2), (8, .int 7), (6, .int 0), (5, .int 32), (3, .long 1649317774848), (0, .ref (a 0)), (1, .long 1649317774848)]) b dX12_plainest_275 rfl (by decide) (by decide) rfl ?_
  refine z_goto (tgt := 185) b dX12_plainest_278 (by decide) ?_
  refine z_iload b dX12_plainest_185 rfl ?_
  refine z_iconst (v := 3) b dX12_plainest_187 (by decide) ?_
  refine z_icmp_ge_f (tgt := 281) b dX12_plainest_188 (by decide) (by decide) ?_
  refine z_iconst (v := 3) b dX12_plainest_191 (by decide) ?_
  refine z_aload_n b dX12_plainest_192 rfl rfl ?_
  refine z_iload b dX12_plainest_193 rfl ?_
  refine z_bipush (v := 6) b dX12_plainest_195 (by decide) ?_
  refine z_idiv (v := 5) b dX12_plainest_197 (by decide) (by decide) ?_
  refine z_iload b dX12_plainest_198 rfl ?_
  refine z_calli b (z_runV (q0 := 0) (As := [.int 5, .int 0]) (st := [.int 3]) b (c_X12_renamed_17 (su (su (su S 34 0 3) 34 1 3) 34 2 3) h_a_31_15) cf_X12_renamed (mw_0 cy a (su (su (su S 34 0 3) 34 1 3) 34 2 3)) rfl wm_X12_445 wi_X12_renamed ws_X12_renamed dX12_plainest_200 rfl (Nat.le_of_ble_eq_true rfl) ⟨by decide, by decide, by decide, by decide⟩) (fun r11373 u11374 h11372 => ?_)
  obtain ⟨rfl, rfl⟩ := h11372
  refine z_imul (v := 6) b dX12_plainest_203 (by decide) ?_
  refine z_aload_n b dX12_plainest_204 rfl rfl ?_
  refine z_iload b dX12_plainest_205 rfl ?_
  refine z_bipush (v := 6) b dX12_plainest_207 (by decide) ?_
  refine z_idiv (v := 5) b dX12_plainest_209 (by decide) (by decide) ?_
  refine z_iload b dX12_plainest_210 rfl ?_
  refine z_calli b (z_runV (q0 := 0) (As := [.int 5, .int 2]) (st := [.int 6]) b (c_X12_renamed_19 (su (su (su S 34 0 3) 34 1 3) 34 2 3) h_a_31_17) cf_X12_renamed (mw_0 cy a (su (su (su S 34 0 3) 34 1 3) 34 2 3)) rfl wm_X12_445 wi_X12_renamed ws_X12_renamed dX12_plainest_212 rfl (Nat.le_of_ble_eq_true rfl) ⟨by decide, by decide, by decide, by decide⟩) (fun r11376 u11377 h11375 => ?_)
  obtain ⟨rfl, rfl⟩ := h11375
  refine z_iadd (v := 6) b dX12_plainest_215 (by decide) ?_
  refine z_istore (lv' := [(8, .int 6), (7, .int 2), (6, .int 0), (5, .int 32), (3, .long 1649317774848), (0, .ref (a 0)), (1, .long 1649317774848)]) b dX12_plainest_216 (by decide) rfl ?_
  refine z_aload_n b dX12_plainest_218 rfl rfl ?_
  refine z_get (q0 := 0) (k9 := 1) (v := .ref (a 2)) b (mw_0 cy a (su (su (su S 34 0 3) 34 1 3) 34 2 3)) rfl in_X12 (by decide) wf_X12_17 rfl dX12_plainest_219 ?_
  refine z_iload b dX12_plainest_222 rfl ?_
  refine z_aload_n b dX12_plainest_224 rfl rfl ?_
  refine z_get (q0 := 0) (k9 := 60) (v := .ref (a 35)) b (mw_0 cy a (su (su (su S 34 0 3) 34 1 3) 34 2 3)) rfl in_X12 (by decide) wf_X12_122 rfl dX12_plainest_225 ?_
  refine z_iconst (v := 3) b dX12_plainest_228 (by decide) ?_
  refine z_iload b dX12_plainest_229 rfl ?_
  refine z_imul (v := 0) b dX12_plainest_231 (by decide) ?_
  refine z_iload b dX12_plainest_232 rfl ?_
  refine z_iadd (v := 2) b dX12_plainest_234 (by decide) ?_
  refine y_iald (q0 := 35) (j := 2) (v := (ar (su (su (su S 34 0 3) 34 1 3) 34 2 3) 33 2)) b (mw_35 cy a (su (su (su S 34 0 3) 34 1 3) 34 2 3)) (by decide) rfl dX12_plainest_235 ?_
  refine z_eqi h_a_33_2 ?_
  refine y_iast (q0 := 2) (j := 6) b (mw_2 cy a (su (su (su S 34 0 3) 34 1 3) 34 2 3)) (by decide) dX12_plainest_236 ((mwa_2 cy a (su (su (su S 34 0 3) 34 1 3) 34 2 3) 6 0).trans (congrArg (mw cy a) (su_same h_a_1_6))) ?_
  refine z_aload_n b dX12_plainest_237 rfl rfl ?_
  refine z_get (q0 := 0) (k9 := 3) (v := .ref (a 4)) b (mw_0 cy a (su (su (su S 34 0 3) 34 1 3) 34 2 3)) rfl in_X12 (by decide) wf_X12_23 rfl dX12_plainest_238 ?_
  refine z_iload b dX12_plainest_241 rfl ?_
  refine z_aload_n b dX12_plainest_243 rfl rfl ?_
  refine z_get (q0 := 0) (k9 := 62) (v := .ref (a 37)) b (mw_0 cy a (su (su (su S 34 0 3) 34 1 3) 34 2 3)) rfl in_X12 (by decide) wf_X12_128 rfl dX12_plainest_244 ?_
  refine z_iconst (v := 3) b dX12_plainest_247 (by decide) ?_
  refine z_iload b dX12_plainest_248 rfl ?_
  refine z_imul (v := 0) b dX12_plainest_250 (by decide) ?_
  refine z_iload b dX12_plainest_251 rfl ?_
  refine z_iadd (v := 2) b dX12_plainest_253 (by decide) ?_
  refine y_zald (q0 := 37) (j := 2) (v := (ar (su (su (su S 34 0 3) 34 1 3) 34 2 3) 35 2)) b (mw_37 cy a (su (su (su S 34 0 3) 34 1 3) 34 2 3)) (by decide) rfl dX12_plainest_254 ?_
  refine z_eqi h_a_35_2 ?_
  refine y_zast (q0 := 4) (j := 6) b (mw_4 cy a (su (su (su S 34 0 3) 34 1 3) 34 2 3)) (by decide) (by decide) dX12_plainest_255 ((mwa_4 cy a (su (su (su S 34 0 3) 34 1 3) 34 2 3) 6 0).trans (congrArg (mw cy a) (su_same h_a_3_6))) ?_
  refine z_aload_n b dX12_plainest_256 rfl rfl ?_
  refine z_get (q0 := 0) (k9 := 4) (v := .ref (a 5)) b (mw_0 cy a (su (su (su S 34 0 3) 34 1 3) 34 2 3)) rfl in_X12 (by decide) wf_X12_27 rfl dX12_plainest_257 ?_
  refine z_iload b dX12_plainest_260 rfl ?_
  refine z_aload_n b dX12_plainest_262 rfl rfl ?_
  refine z_get (q0 := 0) (k9 := 63) (v := .ref (a 38)) b (mw_0 cy a (su (su (su S 34 0 3) 34 1 3) 34 2 3)) rfl in_X12 (by decide) wf_X12_131 rfl dX12_plainest_263 ?_
  refine z_iconst (v := 3) b dX12_plainest_266 (by decide) ?_
  refine z_iload b dX12_plainest_267 rfl ?_
  refine z_imul (v := 0) b dX12_plainest_269 (by decide) ?_
  refine z_iload b dX12_plainest_270 rfl ?_
  refine z_iadd (v := 2) b dX12_plainest_272 (by decide) ?_
  refine y_zald (q0 := 38) (j := 2) (v := (ar (su (su (su S 34 0 3) 34 1 3) 34 2 3) 36 2)) b (mw_38 cy a (su (su (su S 34 0 3) 34 1 3) 34 2 3)) (by decide) rfl dX12_plainest_273 ?_
  refine z_eqi h_a_36_2 ?_
  refine y_zast (q0 := 5) (j := 6) b (mw_5 cy a (su (su (su S 34 0 3) 34 1 3) 34 2 3)) (by decide) (by decide) dX12_plainest_274 ((mwa_5 cy a (su (su (su S 34 0 3) 34 1 3) 34 2 3) 6 0).trans (congrArg (mw cy a) (su_same h_a_4_6))) ?_
  exact k

set_option maxHeartbeats 4000000 in
set_option maxRecDepth 100000 in
theorem ch_X12_plainest_330 {p : Program} {l : Launch} {e : Env} {R : Room} {s : State} {m : MethodId} {args : Array Value} {below : List Frame} {meth : Method} {c : Code} {D : va_G} {cy : Nat → ClassId} {T0 tB tE : Nat} {A : Nat → Prop} {Q : State → Prop} {a : Nat → Nat} (S : GS)  (h_a_0_1 : ar S 0 1 = 0) (h_a_1_4 : ar S 1 4 = 0) (h_a_1_5 : ar S 1 5 = 0) (h_a_2_0 : ar S 2 0 = 3) (h_a_31_15 : ar S 31 15 = 2) (h_a_31_16 : ar S 31 16 = 1) (h_a_31_7 : ar S 31 7 = 0) (h_a_32_1 : ar S 32 1 = 0) (h_a_33_3 : ar S 33 3 = 0) (h_a_33_4 : ar S 33 4 = 0) (h_a_35_3 : ar S 35 3 = 0) (h_a_36_3 : ar S 36 3 = 0) (h_a_3_5 : ar S 3 5 = 0) (h_a_4_5 : ar S 4 5 = 0) (b : Bz p R s m args meth c D cy T0 tB tE A 9 cX12_plainest RX12 (some .long) "plainest" 2 47 0 0) (k : Z p l e R s m args below meth c D A 9 Q 0 0 (mw cy a (su (su (su S 34 0 3) 34 1 3) 34 2 3)) [(8, .int 4), (7, .int 1), (6, .int 1), (5, .int 32), (3, .long 1649317774848), (0, .ref (a 0)), (1, .long 1649317774848)] 251 [.int 3, .ref (a 37), .int 4, .ref (a 4)]) : Z p l e R s m args below meth c D A 9 Q 0 0 (mw cy a (su (su (su S 34 0 3) 34 1 3) 34 2 3)) [(8, .int 6), (7, .int 2), (6, .int 0), (5, .int 32), (3, .long 1649317774848), (0, .ref (a 0)), (1, .long 1649317774848)] 275 [] := by
  refine z_iinc (k9 := 1) (v := 3) (lv' := [(7, .int 3), (8, .int 6), (6, .int 0), (5, .int 32), (3, .long 1649317774848), (0, .ref (a 0)), (1, .long 1649317774848)]) b dX12_plainest_275 rfl (by decide) (by decide) rfl ?_
  refine z_goto (tgt := 185) b dX12_plainest_278 (by decide) ?_
  refine z_iload b dX12_plainest_185 rfl ?_
  refine z_iconst (v := 3) b dX12_plainest_187 (by decide) ?_
  refine z_icmp_ge_t (tgt := 281) b dX12_plainest_188 (by decide) (by decide) ?_
  refine z_iinc (k9 := 2) (v := 1) (lv' := [(6, .int 1), (7, .int 3), (8, .int 6), (5, .int 32), (3, .long 1649317774848), (0, .ref (a 0)), (1, .long 1649317774848)]) b dX12_plainest_281 rfl (by decide) (by decide) rfl ?_
  refine z_goto (tgt := 121) b dX12_plainest_284 (by decide) ?_
  refine z_iload b dX12_plainest_121 rfl ?_
  refine z_iconst (v := 3) b dX12_plainest_123 (by decide) ?_
  refine z_icmp_ge_f (tgt := 287) b dX12_plainest_124 (by decide) (by decide) ?_
  refine z_aload_n b dX12_plainest_127 rfl rfl ?_
  refine z_get (q0 := 0) (k9 := 0) (v := .ref (a 1)) b (mw_0 cy a (su (su (su S 34 0 3) 34 1 3) 34 2 3)) rfl in_X12 (by decide) wf_X12_13 rfl dX12_plainest_128 ?_
  refine z_aload_n b dX12_plainest_131 rfl rfl ?_
  refine z_iload b dX12_plainest_132 rfl ?_
  refine z_bipush (v := 6) b dX12_plainest_134 (by decide) ?_
  refine z_idiv (v := 5) b dX12_plainest_136 (by decide) (by decide) ?_
  refine z_iload b dX12_plainest_137 rfl ?_
  refine z_calli b (z_runV (q0 := 0) (As := [.int 5, .int 1]) (st := [.ref (a 1)]) b (c_X12_renamed_18 (su (su (su S 34 0 3) 34 1 3) 34 2 3) h_a_31_16) cf_X12_renamed (mw_0 cy a (su (su (su S 34 0 3) 34 1 3) 34 2 3)) rfl wm_X12_445 wi_X12_renamed ws_X12_renamed dX12_plainest_139 rfl (Nat.le_of_ble_eq_true rfl) ⟨by decide, by decide, by decide, by decide⟩) (fun r11379 u11380 h11378 => ?_)
  obtain ⟨rfl, rfl⟩ := h11378
  refine z_aload_n b dX12_plainest_142 rfl rfl ?_
  refine z_get (q0 := 0) (k9 := 59) (v := .ref (a 34)) b (mw_0 cy a (su (su (su S 34 0 3) 34 1 3) 34 2 3)) rfl in_X12 (by decide) wf_X12_119 rfl dX12_plainest_143 ?_
  refine z_iload b dX12_plainest_146 rfl ?_
  refine y_iald (q0 := 34) (j := 1) (v := (ar (su (su (su S 34 0 3) 34 1 3) 34 2 3) 32 1)) b (mw_34 cy a (su (su (su S 34 0 3) 34 1 3) 34 2 3)) (by decide) rfl dX12_plainest_148 ?_
  refine z_eqi h_a_32_1 ?_
  refine y_iast (q0 := 1) (j := 1) b (mw_1 cy a (su (su (su S 34 0 3) 34 1 3) 34 2 3)) (by decide) dX12_plainest_149 ((mwa_1 cy a (su (su (su S 34 0 3) 34 1 3) 34 2 3) 1 0).trans (congrArg (mw cy a) (su_same h_a_0_1))) ?_
  refine z_aload_n b dX12_plainest_150 rfl rfl ?_
  refine z_get (q0 := 0) (k9 := 2) (v := .ref (a 3)) b (mw_0 cy a (su (su (su S 34 0 3) 34 1 3) 34 2 3)) rfl in_X12 (by decide) wf_X12_20 rfl dX12_plainest_151 ?_
  refine z_aload_n b dX12_plainest_154 rfl rfl ?_
  refine z_iload b dX12_plainest_155 rfl ?_
  refine z_bipush (v := 6) b dX12_plainest_157 (by decide) ?_
  refine z_irem (v := 2) b dX12_plainest_159 (by decide) (by decide) ?_
  refine z_iload b dX12_plainest_160 rfl ?_
  refine z_calli b (z_runV (q0 := 0) (As := [.int 2, .int 1]) (st := [.ref (a 3)]) b (c_X12_renamed_9 (su (su (su S 34 0 3) 34 1 3) 34 2 3) h_a_31_7) cf_X12_renamed (mw_0 cy a (su (su (su S 34 0 3) 34 1 3) 34 2 3)) rfl wm_X12_445 wi_X12_renamed ws_X12_renamed dX12_plainest_162 rfl (Nat.le_of_ble_eq_true rfl) ⟨by decide, by decide, by decide, by decide⟩) (fun r11382 u11383 h11381 => ?_)
  obtain ⟨rfl, rfl⟩ := h11381
  refine z_aload_n b dX12_plainest_165 rfl rfl ?_
  refine z_iload b dX12_plainest_166 rfl ?_
  refine z_bipush (v := 6) b dX12_plainest_168 (by decide) ?_
  refine z_idiv (v := 5) b dX12_plainest_170 (by decide) (by decide) ?_
  refine z_aload_n b dX12_plainest_171 rfl rfl ?_
  refine z_get (q0 := 0) (k9 := 61) (v := .ref (a 36)) b (mw_0 cy a (su (su (su S 34 0 3) 34 1 3) 34 2 3)) rfl in_X12 (by decide) wf_X12_125 rfl dX12_plainest_172 ?_
  refine z_iload b dX12_plainest_175 rfl ?_
  refine y_iald (q0 := 36) (j := 1) (v := 3) b (mw_36 cy a (su (su (su S 34 0 3) 34 1 3) 34 2 3)) (by decide) rfl dX12_plainest_177 ?_
  refine z_calli b (z_runV (q0 := 0) (As := [.int 5, .int 3]) (st := [.int 0, .ref (a 3)]) b (c_X12_renamed_24 (su (su (su S 34 0 3) 34 1 3) 34 2 3) ) cf_X12_renamed (mw_0 cy a (su (su (su S 34 0 3) 34 1 3) 34 2 3)) rfl wm_X12_445 wi_X12_renamed ws_X12_renamed dX12_plainest_178 rfl (Nat.le_of_ble_eq_true rfl) ⟨by decide, by decide, by decide, by decide⟩) (fun r11385 u11386 h11384 => ?_)
  obtain ⟨rfl, rfl⟩ := h11384
  refine y_iast (q0 := 3) (j := 0) b (mw_3 cy a (su (su (su S 34 0 3) 34 1 3) 34 2 3)) (by decide) dX12_plainest_181 ((mwa_3 cy a (su (su (su S 34 0 3) 34 1 3) 34 2 3) 0 3).trans (congrArg (mw cy a) (su_same h_a_2_0))) ?_
  refine z_iconst (v := 0) b dX12_plainest_182 (by decide) ?_
  refine z_istore (lv' := [(7, .int 0), (6, .int 1), (8, .int 6), (5, .int 32), (3, .long 1649317774848), (0, .ref (a 0)), (1, .long 1649317774848)]) b dX12_plainest_183 (by decide) rfl ?_
  refine z_iload b dX12_plainest_185 rfl ?_
  refine z_iconst (v := 3) b dX12_plainest_187 (by decide) ?_
  refine z_icmp_ge_f (tgt := 281) b dX12_plainest_188 (by decide) (by decide) ?_
  refine z_iconst (v := 3) b dX12_plainest_191 (by decide) ?_
  refine z_aload_n b dX12_plainest_192 rfl rfl ?_
  refine z_iload b dX12_plainest_193 rfl ?_
  refine z_bipush (v := 6) b dX12_plainest_195 (by decide) ?_
  refine z_idiv (v := 5) b dX12_plainest_197 (by decide) (by decide) ?_
  refine z_iload b dX12_plainest_198 rfl ?_
  refine z_calli b (z_runV (q0 := 0) (As := [.int 5, .int 1]) (st := [.int 3]) b (c_X12_renamed_18 (su (su (su S 34 0 3) 34 1 3) 34 2 3) h_a_31_16) cf_X12_renamed (mw_0 cy a (su (su (su S 34 0 3) 34 1 3) 34 2 3)) rfl wm_X12_445 wi_X12_renamed ws_X12_renamed dX12_plainest_200 rfl (Nat.le_of_ble_eq_true rfl) ⟨by decide, by decide, by decide, by decide⟩) (fun r11388 u11389 h11387 => ?_)
  obtain ⟨rfl, rfl⟩ := h11387
  refine z_imul (v := 3) b dX12_plainest_203 (by decide) ?_
  refine z_aload_n b dX12_plainest_204 rfl rfl ?_
  refine z_iload b dX12_plainest_205 rfl ?_
  refine z_bipush (v := 6) b dX12_plainest_207 (by decide) ?_
  refine z_idiv (v := 5) b dX12_plainest_209 (by decide) (by decide) ?_
  refine z_iload b dX12_plainest_210 rfl ?_
  refine z_calli b (z_runV (q0 := 0) (As := [.int 5, .int 0]) (st := [.int 3]) b (c_X12_renamed_17 (su (su (su S 34 0 3) 34 1 3) 34 2 3) h_a_31_15) cf_X12_renamed (mw_0 cy a (su (su (su S 34 0 3) 34 1 3) 34 2 3)) rfl wm_X12_445 wi_X12_renamed ws_X12_renamed dX12_plainest_212 rfl (Nat.le_of_ble_eq_true rfl) ⟨by decide, by decide, by decide, by decide⟩) (fun r11391 u11392 h11390 => ?_)
  obtain ⟨rfl, rfl⟩ := h11390
  refine z_iadd (v := 5) b dX12_plainest_215 (by decide) ?_
  refine z_istore (lv' := [(8, .int 5), (7, .int 0), (6, .int 1), (5, .int 32), (3, .long 1649317774848), (0, .ref (a 0)), (1, .long 1649317774848)]) b dX12_plainest_216 (by decide) rfl ?_
  refine z_aload_n b dX12_plainest_218 rfl rfl ?_
  refine z_get (q0 := 0) (k9 := 1) (v := .ref (a 2)) b (mw_0 cy a (su (su (su S 34 0 3) 34 1 3) 34 2 3)) rfl in_X12 (by decide) wf_X12_17 rfl dX12_plainest_219 ?_
  refine z_iload b dX12_plainest_222 rfl ?_
  refine z_aload_n b dX12_plainest_224 rfl rfl ?_
  refine z_get (q0 := 0) (k9 := 60) (v := .ref (a 35)) b (mw_0 cy a (su (su (su S 34 0 3) 34 1 3) 34 2 3)) rfl in_X12 (by decide) wf_X12_122 rfl dX12_plainest_225 ?_
  refine z_iconst (v := 3) b dX12_plainest_228 (by decide) ?_
  refine z_iload b dX12_plainest_229 rfl ?_
  refine z_imul (v := 3) b dX12_plainest_231 (by decide) ?_
  refine z_iload b dX12_plainest_232 rfl ?_
  refine z_iadd (v := 3) b dX12_plainest_234 (by decide) ?_
  refine y_iald (q0 := 35) (j := 3) (v := (ar (su (su (su S 34 0 3) 34 1 3) 34 2 3) 33 3)) b (mw_35 cy a (su (su (su S 34 0 3) 34 1 3) 34 2 3)) (by decide) rfl dX12_plainest_235 ?_
  refine z_eqi h_a_33_3 ?_
  refine y_iast (q0 := 2) (j := 5) b (mw_2 cy a (su (su (su S 34 0 3) 34 1 3) 34 2 3)) (by decide) dX12_plainest_236 ((mwa_2 cy a (su (su (su S 34 0 3) 34 1 3) 34 2 3) 5 0).trans (congrArg (mw cy a) (su_same h_a_1_5))) ?_
  refine z_aload_n b dX12_plainest_237 rfl rfl ?_
  refine z_get (q0 := 0) (k9 := 3) (v := .ref (a 4)) b (mw_0 cy a (su (su (su S 34 0 3) 34 1 3) 34 2 3)) rfl in_X12 (by decide) wf_X12_23 rfl dX12_plainest_238 ?_
  refine z_iload b dX12_plainest_241 rfl ?_
  refine z_aload_n b dX12_plainest_243 rfl rfl ?_
  refine z_get (q0 := 0) (k9 := 62) (v := .ref (a 37)) b (mw_0 cy a (su (su (su S 34 0 3) 34 1 3) 34 2 3)) rfl in_X12 (by decide) wf_X12_128 rfl dX12_plainest_244 ?_
  refine z_iconst (v := 3) b dX12_plainest_247 (by decide) ?_
  refine z_iload b dX12_plainest_248 rfl ?_
  refine z_imul (v := 3) b dX12_plainest_250 (by decide) ?_
  refine z_iload b dX12_plainest_251 rfl ?_
  refine z_iadd (v := 3) b dX12_plainest_253 (by decide) ?_
  refine y_zald (q0 := 37) (j := 3) (v := (ar (su (su (su S 34 0 3) 34 1 3) 34 2 3) 35 3)) b (mw_37 cy a (su (su (su S 34 0 3) 34 1 3) 34 2 3)) (by decide) rfl dX12_plainest_254 ?_
  refine z_eqi h_a_35_3 ?_
  refine y_zast (q0 := 4) (j := 5) b (mw_4 cy a (su (su (su S 34 0 3) 34 1 3) 34 2 3)) (by decide) (by decide) dX12_plainest_255 ((mwa_4 cy a (su (su (su S 34 0 3) 34 1 3) 34 2 3) 5 0).trans (congrArg (mw cy a) (su_same h_a_3_5))) ?_
  refine z_aload_n b dX12_plainest_256 rfl rfl ?_
  refine z_get (q0 := 0) (k9 := 4) (v := .ref (a 5)) b (mw_0 cy a (su (su (su S 34 0 3) 34 1 3) 34 2 3)) rfl in_X12 (by decide) wf_X12_27 rfl dX12_plainest_257 ?_
  refine z_iload b dX12_plainest_260 rfl ?_
  refine z_aload_n b dX12_plainest_262 rfl rfl ?_
  refine z_get (q0 := 0) (k9 := 63) (v := .ref (a 38)) b (mw_0 cy a (su (su (su S 34 0 3) 34 1 3) 34 2 3)) rfl in_X12 (by decide) wf_X12_131 rfl dX12_plainest_263 ?_
  refine z_iconst (v := 3) b dX12_plainest_266 (by decide) ?_
  refine z_iload b dX12_plainest_267 rfl ?_
  refine z_imul (v := 3) b dX12_plainest_269 (by decide) ?_
  refine z_iload b dX12_plainest_270 rfl ?_
  refine z_iadd (v := 3) b dX12_plainest_272 (by decide) ?_
  refine y_zald (q0 := 38) (j := 3) (v := (ar (su (su (su S 34 0 3) 34 1 3) 34 2 3) 36 3)) b (mw_38 cy a (su (su (su S 34 0 3) 34 1 3) 34 2 3)) (by decide) rfl dX12_plainest_273 ?_
  refine z_eqi h_a_36_3 ?_
  refine y_zast (q0 := 5) (j := 5) b (mw_5 cy a (su (su (su S 34 0 3) 34 1 3) 34 2 3)) (by decide) (by decide) dX12_plainest_274 ((mwa_5 cy a (su (su (su S 34 0 3) 34 1 3) 34 2 3) 5 0).trans (congrArg (mw cy a) (su_same h_a_4_5))) ?_
  refine z_iinc (k9 := 1) (v := 1) (lv' := [(7, .int 1), (8, .int 5), (6, .int 1), (5, .int 32), (3, .long 1649317774848), (0, .ref (a 0)), (1, .long 1649317774848)]) b dX12_plainest_275 rfl (by decide) (by decide) rfl ?_
  refine z_goto (tgt := 185) b dX12_plainest_278 (by decide) ?_
  refine z_iload b dX12_plainest_185 rfl ?_
  refine z_iconst (v := 3) b dX12_plainest_187 (by decide) ?_
  refine z_icmp_ge_f (tgt := 281) b dX12_plainest_188 (by decide) (by decide) ?_
  refine z_iconst (v := 3) b dX12_plainest_191 (by decide) ?_
  refine z_aload_n b dX12_plainest_192 rfl rfl ?_
  refine z_iload b dX12_plainest_193 rfl ?_
  refine z_bipush (v := 6) b dX12_plainest_195 (by decide) ?_
  refine z_idiv (v := 5) b dX12_plainest_197 (by decide) (by decide) ?_
  refine z_iload b dX12_plainest_198 rfl ?_
  refine z_calli b (z_runV (q0 := 0) (As := [.int 5, .int 1]) (st := [.int 3]) b (c_X12_renamed_18 (su (su (su S 34 0 3) 34 1 3) 34 2 3) h_a_31_16) cf_X12_renamed (mw_0 cy a (su (su (su S 34 0 3) 34 1 3) 34 2 3)) rfl wm_X12_445 wi_X12_renamed ws_X12_renamed dX12_plainest_200 rfl (Nat.le_of_ble_eq_true rfl) ⟨by decide, by decide, by decide, by decide⟩) (fun r11394 u11395 h11393 => ?_)
  obtain ⟨rfl, rfl⟩ := h11393
  refine z_imul (v := 3) b dX12_plainest_203 (by decide) ?_
  refine z_aload_n b dX12_plainest_204 rfl rfl ?_
  refine z_iload b dX12_plainest_205 rfl ?_
  refine z_bipush (v := 6) b dX12_plainest_207 (by decide) ?_
  refine z_idiv (v := 5) b dX12_plainest_209 (by decide) (by decide) ?_
  refine z_iload b dX12_plainest_210 rfl ?_
  refine z_calli b (z_runV (q0 := 0) (As := [.int 5, .int 1]) (st := [.int 3]) b (c_X12_renamed_18 (su (su (su S 34 0 3) 34 1 3) 34 2 3) h_a_31_16) cf_X12_renamed (mw_0 cy a (su (su (su S 34 0 3) 34 1 3) 34 2 3)) rfl wm_X12_445 wi_X12_renamed ws_X12_renamed dX12_plainest_212 rfl (Nat.le_of_ble_eq_true rfl) ⟨by decide, by decide, by decide, by decide⟩) (fun r11397 u11398 h11396 => ?_)
  obtain ⟨rfl, rfl⟩ := h11396
  refine z_iadd (v := 4) b dX12_plainest_215 (by decide) ?_
  refine z_istore (lv' := [(8, .int 4), (7, .int 1), (6, .int 1), (5, .int 32), (3, .long 1649317774848), (0, .ref (a 0)), (1, .long 1649317774848)]) b dX12_plainest_216 (by decide) rfl ?_
  refine z_aload_n b dX12_plainest_218 rfl rfl ?_
  refine z_get (q0 := 0) (k9 := 1) (v := .ref (a 2)) b (mw_0 cy a (su (su (su S 34 0 3) 34 1 3) 34 2 3)) rfl in_X12 (by decide) wf_X12_17 rfl dX12_plainest_219 ?_
  refine z_iload b dX12_plainest_222 rfl ?_
  refine z_aload_n b dX12_plainest_224 rfl rfl ?_
  refine z_get (q0 := 0) (k9 := 60) (v := .ref (a 35)) b (mw_0 cy a (su (su (su S 34 0 3) 34 1 3) 34 2 3)) rfl in_X12 (by decide) wf_X12_122 rfl dX12_plainest_225 ?_
  refine z_iconst (v := 3) b dX12_plainest_228 (by decide) ?_
  refine z_iload b dX12_plainest_229 rfl ?_
  refine z_imul (v := 3) b dX12_plainest_231 (by decide) ?_
  refine z_iload b dX12_plainest_232 rfl ?_
  refine z_iadd (v := 4) b dX12_plainest_234 (by decide) ?_
  refine y_iald (q0 := 35) (j := 4) (v := (ar (su (su (su S 34 0 3) 34 1 3) 34 2 3) 33 4)) b (mw_35 cy a (su (su (su S 34 0 3) 34 1 3) 34 2 3)) (by decide) rfl dX12_plainest_235 ?_
  refine z_eqi h_a_33_4 ?_
  refine y_iast (q0 := 2) (j := 4) b (mw_2 cy a (su (su (su S 34 0 3) 34 1 3) 34 2 3)) (by decide) dX12_plainest_236 ((mwa_2 cy a (su (su (su S 34 0 3) 34 1 3) 34 2 3) 4 0).trans (congrArg (mw cy a) (su_same h_a_1_4))) ?_
  refine z_aload_n b dX12_plainest_237 rfl rfl ?_
  refine z_get (q0 := 0) (k9 := 3) (v := .ref (a 4)) b (mw_0 cy a (su (su (su S 34 0 3) 34 1 3) 34 2 3)) rfl in_X12 (by decide) wf_X12_23 rfl dX12_plainest_238 ?_
  refine z_iload b dX12_plainest_241 rfl ?_
  refine z_aload_n b dX12_plainest_243 rfl rfl ?_
  refine z_get (q0 := 0) (k9 := 62) (v := .ref (a 37)) b (mw_0 cy a (su (su (su S 34 0 3) 34 1 3) 34 2 3)) rfl in_X12 (by decide) wf_X12_128 rfl dX12_plainest_244 ?_
  refine z_iconst (v := 3) b dX12_plainest_247 (by decide) ?_
  refine z_iload b dX12_plainest_248 rfl ?_
  refine z_imul (v := 3) b dX12_plainest_250 (by decide) ?_
  exact k

set_option maxHeartbeats 4000000 in
set_option maxRecDepth 100000 in
theorem ch_X12_plainest_331 {p : Program} {l : Launch} {e : Env} {R : Room} {s : State} {m : MethodId} {args : Array Value} {below : List Frame} {meth : Method} {c : Code} {D : va_G} {cy : Nat → ClassId} {T0 tB tE : Nat} {A : Nat → Prop} {Q : State → Prop} {a : Nat → Nat} (S : GS)  (h_a_0_0 : ar S 0 0 = 0) (h_a_1_3 : ar S 1 3 = 0) (h_a_2_2 : ar S 2 2 = 3) (h_a_31_15 : ar S 31 15 = 2) (h_a_31_16 : ar S 31 16 = 1) (h_a_31_17 : ar S 31 17 = 0) (h_a_31_8 : ar S 31 8 = 2) (h_a_32_2 : ar S 32 2 = 0) (h_a_33_5 : ar S 33 5 = 0) (h_a_35_4 : ar S 35 4 = 0) (h_a_35_5 : ar S 35 5 = 0) (h_a_36_4 : ar S 36 4 = 0) (h_a_36_5 : ar S 36 5 = 0) (h_a_3_3 : ar S 3 3 = 0) (h_a_3_4 : ar S 3 4 = 0) (h_a_4_3 : ar S 4 3 = 0) (h_a_4_4 : ar S 4 4 = 0) (b : Bz p R s m args meth c D cy T0 tB tE A 9 cX12_plainest RX12 (some .long) "plainest" 2 47 0 0) (k : Z p l e R s m args below meth c D A 9 Q 0 0 (mw cy a (su (su (su S 34 0 3) 34 1 3) 34 2 3)) [(8, .int 2), (7, .int 0), (6, .int 2), (5, .int 32), (3, .long 1649317774848), (0, .ref (a 0)), (1, .long 1649317774848)] 224 [.int 2, .ref (a 2)]) : Z p l e R s m args below meth c D A 9 Q 0 0 (mw cy a (su (su (su S 34 0 3) 34 1 3) 34 2 3)) [(8, .int 4), (7, .int 1), (6, .int 1), (5, .int 32), (3, .long 1649317774848), (0, .ref (a 0)), (1, .long 1649317774848)] 251 [.int 3, .ref (a 37), .int 4, .ref (a 4)] := by
  refine z_iload b dX12_plainest_251 rfl ?_
  refine z_iadd (v := 4) b dX12_plainest_253 (by decide) ?_
  refine y_zald (q0 := 37) (j := 4) (v := (ar (su (su (su S 34 0 3) 34 1 3) 34 2 3) 35 4)) b (mw_37 cy a (su (su (su S 34 0 3) 34 1 3) 34 2 3)) (by decide) rfl dX12_plainest_254 ?_
  refine z_eqi h_a_35_4 ?_
  refine y_zast (q0 := 4) (j := 4) b (mw_4 cy a (su (su (su S 34 0 3) 34 1 3) 34 2 3)) (by decide) (by decide) dX12_plainest_255 ((mwa_4 cy a (su (su (su S 34 0 3) 34 1 3) 34 2 3) 4 0).trans (congrArg (mw cy a) (su_same h_a_3_4))) ?_
  refine z_aload_n b dX12_plainest_256 rfl rfl ?_
  refine z_get (q0 := 0) (k9 := 4) (v := .ref (a 5)) b (mw_0 cy a (su (su (su S 34 0 3) 34 1 3) 34 2 3)) rfl in_X12 (by decide) wf_X12_27 rfl dX12_plainest_257 ?_
  refine z_iload b dX12_plainest_260 rfl ?_
  refine z_aload_n b dX12_plainest_262 rfl rfl ?_
  refine z_get (q0 := 0) (k9 := 63) (v := .ref (a 38)) b (mw_0 cy a (su (su (su S 34 0 3) 34 1 3) 34 2 3)) rfl in_X12 (by decide) wf_X12_131 rfl dX12_plainest_263 ?_
  refine z_iconst (v := 3) b dX12_plainest_266 (by decide) ?_
  refine z_iload b dX12_plainest_267 rfl ?_
  refine z_imul (v := 3) b dX12_plainest_269 (by decide) ?_
  refine z_iload b dX12_plainest_270 rfl ?_
  refine z_iadd (v := 4) b dX12_plainest_272 (by decide) ?_
  refine y_zald (q0 := 38) (j := 4) (v := (ar (su (su (su S 34 0 3) 34 1 3) 34 2 3) 36 4)) b (mw_38 cy a (su (su (su S 34 0 3) 34 1 3) 34 2 3)) (by decide) rfl dX12_plainest_273 ?_
  refine z_eqi h_a_36_4 ?_
  refine y_zast (q0 := 5) (j := 4) b (mw_5 cy a (su (su (su S 34 0 3) 34 1 3) 34 2 3)) (by decide) (by decide) dX12_plainest_274 ((mwa_5 cy a (su (su (su S 34 0 3) 34 1 3) 34 2 3) 4 0).trans (congrArg (mw cy a) (su_same h_a_4_4))) ?_
  refine z_iinc (k9 := 1) (v := 2) (lv' := [(7, .int 2), (8, .int 4), (6, .int 1), (5, .int 32), (3, .long 1649317774848), (0, .ref (a 0)), (1, .long 1649317774848)]) b dX12_plainest_275 rfl (by decide) (by decide) rfl ?_
  refine z_goto (tgt := 185) b dX12_plainest_278 (by decide) ?_
  refine z_iload b dX12_plainest_185 rfl ?_
  refine z_iconst (v := 3) b dX12_plainest_187 (by decide) ?_
  refine z_icmp_ge_f (tgt := 281) b dX12_plainest_188 (by decide) (by decide) ?_
  refine z_iconst (v := 3) b dX12_plainest_191 (by decide) ?_
  refine z_aload_n b dX12_plainest_192 rfl rfl ?_
  refine z_iload b dX12_plainest_193 rfl ?_
  refine z_bipush (v := 6) b dX12_plainest_195 (by decide) ?_
  refine z_idiv (v := 5) b dX12_plainest_197 (by decide) (by decide) ?_
  refine z_iload b dX12_plainest_198 rfl ?_
  refine z_calli b (z_runV (q0 := 0) (As := [.int 5, .int 1]) (st := [.int 3]) b (c_X12_renamed_18 (su (su (su S 34 0 3) 34 1 3) 34 2 3) h_a_31_16) cf_X12_renamed (mw_0 cy a (su (su (su S 34 0 3) 34 1 3) 34 2 3)) rfl wm_X12_445 wi_X12_renamed ws_X12_renamed dX12_plainest_200 rfl (Nat.le_of_ble_eq_true rfl) ⟨by decide, by decide, by decide, by decide⟩) (fun r11400 u11401 h11399 => ?_)
  obtain ⟨rfl, rfl⟩ := h11399
  refine z_imul (v := 3) b dX12_plainest_203 (by decide) ?_
  refine z_aload_n b dX12_plainest_204 rfl rfl ?_
  refine z_iload b dX12_plainest_205 rfl ?_
  refine z_bipush (v := 6) b dX12_plainest_207 (by decide) ?_
  refine z_idiv (v := 5) b dX12_plainest_209 (by decide) (by decide) ?_
  refine z_iload b dX12_plainest_210 rfl ?_
  refine z_calli b (z_runV (q0 := 0) (As := [.int 5, .int 2]) (st := [.int 3]) b (c_X12_renamed_19 (su (su (su S 34 0 3) 34 1 3) 34 2 3) h_a_31_17) cf_X12_renamed (mw_0 cy a (su (su (su S 34 0 3) 34 1 3) 34 2 3)) rfl wm_X12_445 wi_X12_renamed ws_X12_renamed dX12_plainest_212 rfl (Nat.le_of_ble_eq_true rfl) ⟨by decide, by decide, by decide, by decide⟩) (fun r11403 u11404 h11402 => ?_)
  obtain ⟨rfl, rfl⟩ := h11402
  refine z_iadd (v := 3) b dX12_plainest_215 (by decide) ?_
  refine z_istore (lv' := [(8, .int 3), (7, .int 2), (6, .int 1), (5, .int 32), (3, .long 1649317774848), (0, .ref (a 0)), (1, .long 1649317774848)]) b dX12_plainest_216 (by decide) rfl ?_
  refine z_aload_n b dX12_plainest_218 rfl rfl ?_
  refine z_get (q0 := 0) (k9 := 1) (v := .ref (a 2)) b (mw_0 cy a (su (su (su S 34 0 3) 34 1 3) 34 2 3)) rfl in_X12 (by decide) wf_X12_17 rfl dX12_plainest_219 ?_
  refine z_iload b dX12_plainest_222 rfl ?_
  refine z_aload_n b dX12_plainest_224 rfl rfl ?_
  refine z_get (q0 := 0) (k9 := 60) (v := .ref (a 35)) b (mw_0 cy a (su (su (su S 34 0 3) 34 1 3) 34 2 3)) rfl in_X12 (by decide) wf_X12_122 rfl dX12_plainest_225 ?_
  refine z_iconst (v := 3) b dX12_plainest_228 (by decide) ?_
  refine z_iload b dX12_plainest_229 rfl ?_
  refine z_imul (v := 3) b dX12_plainest_231 (by decide) ?_
  refine z_iload b dX12_plainest_232 rfl ?_
  refine z_iadd (v := 5) b dX12_plainest_234 (by decide) ?_
  refine y_iald (q0 := 35) (j := 5) (v := (ar (su (su (su S 34 0 3) 34 1 3) 34 2 3) 33 5)) b (mw_35 cy a (su (su (su S 34 0 3) 34 1 3) 34 2 3)) (by decide) rfl dX12_plainest_235 ?_
  refine z_eqi h_a_33_5 ?_
  refine y_iast (q0 := 2) (j := 3) b (mw_2 cy a (su (su (su S 34 0 3) 34 1 3) 34 2 3)) (by decide) dX12_plainest_236 ((mwa_2 cy a (su (su (su S 34 0 3) 34 1 3) 34 2 3) 3 0).trans (congrArg (mw cy a) (su_same h_a_1_3))) ?_
  refine z_aload_n b dX12_plainest_237 rfl rfl ?_
  refine z_get (q0 := 0) (k9 := 3) (v := .ref (a 4)) b (mw_0 cy a (su (su (su S 34 0 3) 34 1 3) 34 2 3)) rfl in_X12 (by decide) wf_X12_23 rfl dX12_plainest_238 ?_
  refine z_iload b dX12_plainest_241 rfl ?_
  refine z_aload_n b dX12_plainest_243 rfl rfl ?_
  refine z_get (q0 := 0) (k9 := 62) (v := .ref (a 37)) b (mw_0 cy a (su (su (su S 34 0 3) 34 1 3) 34 2 3)) rfl in_X12 (by decide) wf_X12_128 rfl dX12_plainest_244 ?_
  refine z_iconst (v := 3) b dX12_plainest_247 (by decide) ?_
  refine z_iload b dX12_plainest_248 rfl ?_
  refine z_imul (v := 3) b dX12_plainest_250 (by decide) ?_
  refine z_iload b dX12_plainest_251 rfl ?_
  refine z_iadd (v := 5) b dX12_plainest_253 (by decide) ?_
  refine y_zald (q0 := 37) (j := 5) (v := (ar (su (su (su S 34 0 3) 34 1 3) 34 2 3) 35 5)) b (mw_37 cy a (su (su (su S 34 0 3) 34 1 3) 34 2 3)) (by decide) rfl dX12_plainest_254 ?_
  refine z_eqi h_a_35_5 ?_
  refine y_zast (q0 := 4) (j := 3) b (mw_4 cy a (su (su (su S 34 0 3) 34 1 3) 34 2 3)) (by decide) (by decide) dX12_plainest_255 ((mwa_4 cy a (su (su (su S 34 0 3) 34 1 3) 34 2 3) 3 0).trans (congrArg (mw cy a) (su_same h_a_3_3))) ?_
  refine z_aload_n b dX12_plainest_256 rfl rfl ?_
  refine z_get (q0 := 0) (k9 := 4) (v := .ref (a 5)) b (mw_0 cy a (su (su (su S 34 0 3) 34 1 3) 34 2 3)) rfl in_X12 (by decide) wf_X12_27 rfl dX12_plainest_257 ?_
  refine z_iload b dX12_plainest_260 rfl ?_
  refine z_aload_n b dX12_plainest_262 rfl rfl ?_
  refine z_get (q0 := 0) (k9 := 63) (v := .ref (a 38)) b (mw_0 cy a (su (su (su S 34 0 3) 34 1 3) 34 2 3)) rfl in_X12 (by decide) wf_X12_131 rfl dX12_plainest_263 ?_
  refine z_iconst (v := 3) b dX12_plainest_266 (by decide) ?_
  refine z_iload b dX12_plainest_267 rfl ?_
  refine z_imul (v := 3) b dX12_plainest_269 (by decide) ?_
  refine z_iload b dX12_plainest_270 rfl ?_
  refine z_iadd (v := 5) b dX12_plainest_272 (by decide) ?_
  refine y_zald (q0 := 38) (j := 5) (v := (ar (su (su (su S 34 0 3) 34 1 3) 34 2 3) 36 5)) b (mw_38 cy a (su (su (su S 34 0 3) 34 1 3) 34 2 3)) (by decide) rfl dX12_plainest_273 ?_
  refine z_eqi h_a_36_5 ?_
  refine y_zast (q0 := 5) (j := 3) b (mw_5 cy a (su (su (su S 34 0 3) 34 1 3) 34 2 3)) (by decide) (by decide) dX12_plainest_274 ((mwa_5 cy a (su (su (su S 34 0 3) 34 1 3) 34 2 3) 3 0).trans (congrArg (mw cy a) (su_same h_a_4_3))) ?_
  refine z_iinc (k9 := 1) (v := 3) (lv' := [(7, .int 3), (8, .int 3), (6, .int 1), (5, .int 32), (3, .long 1649317774848), (0, .ref (a 0)), (1, .long 1649317774848)]) b dX12_plainest_275 rfl (by decide) (by decide) rfl ?_
  refine z_goto (tgt := 185) b dX12_plainest_278 (by decide) ?_
  refine z_iload b dX12_plainest_185 rfl ?_
  refine z_iconst (v := 3) b dX12_plainest_187 (by decide) ?_
  refine z_icmp_ge_t (tgt := 281) b dX12_plainest_188 (by decide) (by decide) ?_
  refine z_iinc (k9 := 2) (v := 2) (lv' := [(6, .int 2), (7, .int 3), (8, .int 3), (5, .int 32), (3, .long 1649317774848), (0, .ref (a 0)), (1, .long 1649317774848)]) b dX12_plainest_281 rfl (by decide) (by decide) rfl ?_
  refine z_goto (tgt := 121) b dX12_plainest_284 (by decide) ?_
  refine z_iload b dX12_plainest_121 rfl ?_
  refine z_iconst (v := 3) b dX12_plainest_123 (by decide) ?_
  refine z_icmp_ge_f (tgt := 287) b dX12_plainest_124 (by decide) (by decide) ?_
  refine z_aload_n b dX12_plainest_127 rfl rfl ?_
  refine z_get (q0 := 0) (k9 := 0) (v := .ref (a 1)) b (mw_0 cy a (su (su (su S 34 0 3) 34 1 3) 34 2 3)) rfl in_X12 (by decide) wf_X12_13 rfl dX12_plainest_128 ?_
  refine z_aload_n b dX12_plainest_131 rfl rfl ?_
  refine z_iload b dX12_plainest_132 rfl ?_
  refine z_bipush (v := 6) b dX12_plainest_134 (by decide) ?_
  refine z_idiv (v := 5) b dX12_plainest_136 (by decide) (by decide) ?_
  refine z_iload b dX12_plainest_137 rfl ?_
  refine z_calli b (z_runV (q0 := 0) (As := [.int 5, .int 2]) (st := [.ref (a 1)]) b (c_X12_renamed_19 (su (su (su S 34 0 3) 34 1 3) 34 2 3) h_a_31_17) cf_X12_renamed (mw_0 cy a (su (su (su S 34 0 3) 34 1 3) 34 2 3)) rfl wm_X12_445 wi_X12_renamed ws_X12_renamed dX12_plainest_139 rfl (Nat.le_of_ble_eq_true rfl) ⟨by decide, by decide, by decide, by decide⟩) (fun r11406 u11407 h11405 => ?_)
  obtain ⟨rfl, rfl⟩ := h11405
  refine z_aload_n b dX12_plainest_142 rfl rfl ?_
  refine z_get (q0 := 0) (k9 := 59) (v := .ref (a 34)) b (mw_0 cy a (su (su (su S 34 0 3) 34 1 3) 34 2 3)) rfl in_X12 (by decide) wf_X12_119 rfl dX12_plainest_143 ?_
  refine z_iload b dX12_plainest_146 rfl ?_
  refine y_iald (q0 := 34) (j := 2) (v := (ar (su (su (su S 34 0 3) 34 1 3) 34 2 3) 32 2)) b (mw_34 cy a (su (su (su S 34 0 3) 34 1 3) 34 2 3)) (by decide) rfl dX12_plainest_148 ?_
  refine z_eqi h_a_32_2 ?_
  refine y_iast (q0 := 1) (j := 0) b (mw_1 cy a (su (su (su S 34 0 3) 34 1 3) 34 2 3)) (by decide) dX12_plainest_149 ((mwa_1 cy a (su (su (su S 34 0 3) 34 1 3) 34 2 3) 0 0).trans (congrArg (mw cy a) (su_same h_a_0_0))) ?_
  refine z_aload_n b dX12_plainest_150 rfl rfl ?_
  refine z_get (q0 := 0) (k9 := 2) (v := .ref (a 3)) b (mw_0 cy a (su (su (su S 34 0 3) 34 1 3) 34 2 3)) rfl in_X12 (by decide) wf_X12_20 rfl dX12_plainest_151 ?_
  refine z_aload_n b dX12_plainest_154 rfl rfl ?_
  refine z_iload b dX12_plainest_155 rfl ?_
  refine z_bipush (v := 6) b dX12_plainest_157 (by decide) ?_
  refine z_irem (v := 2) b dX12_plainest_159 (by decide) (by decide) ?_
  refine z_iload b dX12_plainest_160 rfl ?_
  refine z_calli b (z_runV (q0 := 0) (As := [.int 2, .int 2]) (st := [.ref (a 3)]) b (c_X12_renamed_10 (su (su (su S 34 0 3) 34 1 3) 34 2 3) h_a_31_8) cf_X12_renamed (mw_0 cy a (su (su (su S 34 0 3) 34 1 3) 34 2 3)) rfl wm_X12_445 wi_X12_renamed ws_X12_renamed dX12_plainest_162 rfl (Nat.le_of_ble_eq_true rfl) ⟨by decide, by decide, by decide, by decide⟩) (fun r11409 u11410 h11408 => ?_)
  obtain ⟨rfl, rfl⟩ := h11408
  refine z_aload_n b dX12_plainest_165 rfl rfl ?_
  refine z_iload b dX12_plainest_166 rfl ?_
  refine z_bipush (v := 6) b dX12_plainest_168 (by decide) ?_
  refine z_idiv (v := 5) b dX12_plainest_170 (by decide) (by decide) ?_
  refine z_aload_n b dX12_plainest_171 rfl rfl ?_
  refine z_get (q0 := 0) (k9 := 61) (v := .ref (a 36)) b (mw_0 cy a (su (su (su S 34 0 3) 34 1 3) 34 2 3)) rfl in_X12 (by decide) wf_X12_125 rfl dX12_plainest_172 ?_
  refine z_iload b dX12_plainest_175 rfl ?_
  refine y_iald (q0 := 36) (j := 2) (v := 3) b (mw_36 cy a (su (su (su S 34 0 3) 34 1 3) 34 2 3)) (by decide) rfl dX12_plainest_177 ?_
  refine z_calli b (z_runV (q0 := 0) (As := [.int 5, .int 3]) (st := [.int 2, .ref (a 3)]) b (c_X12_renamed_24 (su (su (su S 34 0 3) 34 1 3) 34 2 3) ) cf_X12_renamed (mw_0 cy a (su (su (su S 34 0 3) 34 1 3) 34 2 3)) rfl wm_X12_445 wi_X12_renamed ws_X12_renamed dX12_plainest_178 rfl (Nat.le_of_ble_eq_true rfl) ⟨by decide, by decide, by decide, by decide⟩) (fun r11412 u11413 h11411 => ?_)
  obtain ⟨rfl, rfl⟩ := h11411
  refine y_iast (q0 := 3) (j := 2) b (mw_3 cy a (su (su (su S 34 0 3) 34 1 3) 34 2 3)) (by decide) dX12_plainest_181 ((mwa_3 cy a (su (su (su S 34 0 3) 34 1 3) 34 2 3) 2 3).trans (congrArg (mw cy a) (su_same h_a_2_2))) ?_
  refine z_iconst (v := 0) b dX12_plainest_182 (by decide) ?_
  refine z_istore (lv' := [(7, .int 0), (6, .int 2), (8, .int 3), (5, .int 32), (3, .long 1649317774848), (0, .ref (a 0)), (1, .long 1649317774848)]) b dX12_plainest_183 (by decide) rfl ?_
  refine z_iload b dX12_plainest_185 rfl ?_
  refine z_iconst (v := 3) b dX12_plainest_187 (by decide) ?_
  refine z_icmp_ge_f (tgt := 281) b dX12_plainest_188 (by decide) (by decide) ?_
  refine z_iconst (v := 3) b dX12_plainest_191 (by decide) ?_
  refine z_aload_n b dX12_plainest_192 rfl rfl ?_
  refine z_iload b dX12_plainest_193 rfl ?_
  refine z_bipush (v := 6) b dX12_plainest_195 (by decide) ?_
  refine z_idiv (v := 5) b dX12_plainest_197 (by decide) (by decide) ?_
  refine z_iload b dX12_plainest_198 rfl ?_
  refine z_calli b (z_runV (q0 := 0) (As := [.int 5, .int 2]) (st := [.int 3]) b (c_X12_renamed_19 (su (su (su S 34 0 3) 34 1 3) 34 2 3) h_a_31_17) cf_X12_renamed (mw_0 cy a (su (su (su S 34 0 3) 34 1 3) 34 2 3)) rfl wm_X12_445 wi_X12_renamed ws_X12_renamed dX12_plainest_200 rfl (Nat.le_of_ble_eq_true rfl) ⟨by decide, by decide, by decide, by decide⟩) (fun r11415 u11416 h11414 => ?_)
  obtain ⟨rfl, rfl⟩ := h11414
  refine z_imul (v := 0) b dX12_plainest_203 (by decide) ?_
  refine z_aload_n b dX12_plainest_204 rfl rfl ?_
  refine z_iload b dX12_plainest_205 rfl ?_
  refine z_bipush (v := 6) b dX12_plainest_207 (by decide) ?_
  refine z_idiv (v := 5) b dX12_plainest_209 (by decide) (by decide) ?_
  refine z_iload b dX12_plainest_210 rfl ?_
  refine z_calli b (z_runV (q0 := 0) (As := [.int 5, .int 0]) (st := [.int 0]) b (c_X12_renamed_17 (su (su (su S 34 0 3) 34 1 3) 34 2 3) h_a_31_15) cf_X12_renamed (mw_0 cy a (su (su (su S 34 0 3) 34 1 3) 34 2 3)) rfl wm_X12_445 wi_X12_renamed ws_X12_renamed dX12_plainest_212 rfl (Nat.le_of_ble_eq_true rfl) ⟨by decide, by decide, by decide, by decide⟩) (fun r11418 u11419 h11417 => ?_)
  obtain ⟨rfl, rfl⟩ := h11417
  refine z_iadd (v := 2) b dX12_plainest_215 (by decide) ?_
  refine z_istore (lv' := [(8, .int 2), (7, .int 0), (6, .int 2), (5, .int 32), (3, .long 1649317774848), (0, .ref (a 0)), (1, .long 1649317774848)]) b dX12_plainest_216 (by decide) rfl ?_
  refine z_aload_n b dX12_plainest_218 rfl rfl ?_
  refine z_get (q0 := 0) (k9 := 1) (v := .ref (a 2)) b (mw_0 cy a (su (su (su S 34 0 3) 34 1 3) 34 2 3)) rfl in_X12 (by decide) wf_X12_17 rfl dX12_plainest_219 ?_
  refine z_iload b dX12_plainest_222 rfl ?_
  exact k

set_option maxHeartbeats 4000000 in
set_option maxRecDepth 100000 in
theorem ch_X12_plainest_332 {p : Program} {l : Launch} {e : Env} {R : Room} {s : State} {m : MethodId} {args : Array Value} {below : List Frame} {meth : Method} {c : Code} {D : va_G} {cy : Nat → ClassId} {T0 tB tE : Nat} {A : Nat → Prop} {Q : State → Prop} {a : Nat → Nat} (S : GS)  (h_a_1_0 : ar S 1 0 = 0) (h_a_1_1 : ar S 1 1 = 0) (h_a_1_2 : ar S 1 2 = 0) (h_a_31_16 : ar S 31 16 = 1) (h_a_31_17 : ar S 31 17 = 0) (h_a_33_6 : ar S 33 6 = 0) (h_a_33_7 : ar S 33 7 = 0) (h_a_33_8 : ar S 33 8 = 0) (h_a_35_6 : ar S 35 6 = 0) (h_a_35_7 : ar S 35 7 = 0) (h_a_35_8 : ar S 35 8 = 0) (h_a_36_6 : ar S 36 6 = 0) (h_a_36_7 : ar S 36 7 = 0) (h_a_3_0 : ar S 3 0 = 0) (h_a_3_1 : ar S 3 1 = 0) (h_a_3_2 : ar S 3 2 = 0) (h_a_4_1 : ar S 4 1 = 0) (h_a_4_2 : ar S 4 2 = 0) (b : Bz p R s m args meth c D cy T0 tB tE A 9 cX12_plainest RX12 (some .long) "plainest" 2 47 0 0) (k : Z p l e R s m args below meth c D A 9 Q 0 0 (mw cy a (su (su (su S 34 0 3) 34 1 3) 34 2 3)) [(8, .int 0), (7, .int 2), (6, .int 2), (5, .int 32), (3, .long 1649317774848), (0, .ref (a 0)), (1, .long 1649317774848)] 263 [.ref (a 0), .int 0, .ref (a 5)]) : Z p l e R s m args below meth c D A 9 Q 0 0 (mw cy a (su (su (su S 34 0 3) 34 1 3) 34 2 3)) [(8, .int 2), (7, .int 0), (6, .int 2), (5, .int 32), (3, .long 1649317774848), (0, .ref (a 0)), (1, .long 1649317774848)] 224 [.int 2, .ref (a 2)] := by
  refine z_aload_n b dX12_plainest_224 rfl rfl ?_
  refine z_get (q0 := 0) (k9 := 60) (v := .ref (a 35)) b (mw_0 cy a (su (su (su S 34 0 3) 34 1 3) 34 2 3)) rfl in_X12 (by decide) wf_X12_122 rfl dX12_plainest_225 ?_
  refine z_iconst (v := 3) b dX12_plainest_228 (by decide) ?_
  refine z_iload b dX12_plainest_229 rfl ?_
  refine z_imul (v := 6) b dX12_plainest_231 (by decide) ?_
  refine z_iload b dX12_plainest_232 rfl ?_
  refine z_iadd (v := 6) b dX12_plainest_234 (by decide) ?_
  refine y_iald (q0 := 35) (j := 6) (v := (ar (su (su (su S 34 0 3) 34 1 3) 34 2 3) 33 6)) b (mw_35 cy a (su (su (su S 34 0 3) 34 1 3) 34 2 3)) (by decide) rfl dX12_plainest_235 ?_
  refine z_eqi h_a_33_6 ?_
  refine y_iast (q0 := 2) (j := 2) b (mw_2 cy a (su (su (su S 34 0 3) 34 1 3) 34 2 3)) (by decide) dX12_plainest_236 ((mwa_2 cy a (su (su (su S 34 0 3) 34 1 3) 34 2 3) 2 0).trans (congrArg (mw cy a) (su_same h_a_1_2))) ?_
  refine z_aload_n b dX12_plainest_237 rfl rfl ?_
  refine z_get (q0 := 0) (k9 := 3) (v := .ref (a 4)) b (mw_0 cy a (su (su (su S 34 0 3) 34 1 3) 34 2 3)) rfl in_X12 (by decide) wf_X12_23 rfl dX12_plainest_238 ?_
  refine z_iload b dX12_plainest_241 rfl ?_
  refine z_aload_n b dX12_plainest_243 rfl rfl ?_
  refine z_get (q0 := 0) (k9 := 62) (v := .ref (a 37)) b (mw_0 cy a (su (su (su S 34 0 3) 34 1 3) 34 2 3)) rfl in_X12 (by decide) wf_X12_128 rfl dX12_plainest_244 ?_
  refine z_iconst (v := 3) b dX12_plainest_247 (by decide) ?_
  refine z_iload b dX12_plainest_248 rfl ?_
  refine z_imul (v := 6) b dX12_plainest_250 (by decide) ?_
  refine z_iload b dX12_plainest_251 rfl ?_
  refine z_iadd (v := 6) b dX12_plainest_253 (by decide) ?_
  refine y_zald (q0 := 37) (j := 6) (v := (ar (su (su (su S 34 0 3) 34 1 3) 34 2 3) 35 6)) b (mw_37 cy a (su (su (su S 34 0 3) 34 1 3) 34 2 3)) (by decide) rfl dX12_plainest_254 ?_
  refine z_eqi h_a_35_6 ?_
  refine y_zast (q0 := 4) (j := 2) b (mw_4 cy a (su (su (su S 34 0 3) 34 1 3) 34 2 3)) (by decide) (by decide) dX12_plainest_255 ((mwa_4 cy a (su (su (su S 34 0 3) 34 1 3) 34 2 3) 2 0).trans (congrArg (mw cy a) (su_same h_a_3_2))) ?_
  refine z_aload_n b dX12_plainest_256 rfl rfl ?_
  refine z_get (q0 := 0) (k9 := 4) (v := .ref (a 5)) b (mw_0 cy a (su (su (su S 34 0 3) 34 1 3) 34 2 3)) rfl in_X12 (by decide) wf_X12_27 rfl dX12_plainest_257 ?_
  refine z_iload b dX12_plainest_260 rfl ?_
  refine z_aload_n b dX12_plainest_262 rfl rfl ?_
  refine z_get (q0 := 0) (k9 := 63) (v := .ref (a 38)) b (mw_0 cy a (su (su (su S 34 0 3) 34 1 3) 34 2 3)) rfl in_X12 (by decide) wf_X12_131 rfl dX12_plainest_263 ?_
  refine z_iconst (v := 3) b dX12_plainest_266 (by decide) ?_
  refine z_iload b dX12_plainest_267 rfl ?_
  refine z_imul (v := 6) b dX12_plainest_269 (by decide) ?_
  refine z_iload b dX12_plainest_270 rfl ?_
  refine z_iadd (v := 6) b dX12_plainest_272 (by decide) ?_
  refine y_zald (q0 := 38) (j := 6) (v := (ar (su (su (su S 34 0 3) 34 1 3) 34 2 3) 36 6)) b (mw_38 cy a (su (su (su S 34 0 3) 34 1 3) 34 2 3)) (by decide) rfl dX12_plainest_273 ?_
  refine z_eqi h_a_36_6 ?_
  refine y_zast (q0 := 5) (j := 2) b (mw_5 cy a (su (su (su S 34 0 3) 34 1 3) 34 2 3)) (by decide) (by decide) dX12_plainest_274 ((mwa_5 cy a (su (su (su S 34 0 3) 34 1 3) 34 2 3) 2 0).trans (congrArg (mw cy a) (su_same h_a_4_2))) ?_
  refine z_iinc (k9 := 1) (v := 1) (lv' := [(7, .int 1), (8, .int 2), (6, .int 2), (5, .int 32), (3, .long 1649317774848), (0, .ref (a 0)), (1, .long 1649317774848)]) b dX12_plainest_275 rfl (by decide) (by decide) rfl ?_
  refine z_goto (tgt := 185) b dX12_plainest_278 (by decide) ?_
  refine z_iload b dX12_plainest_185 rfl ?_
  refine z_iconst (v := 3) b dX12_plainest_187 (by decide) ?_
  refine z_icmp_ge_f (tgt := 281) b dX12_plainest_188 (by decide) (by decide) ?_
  refine z_iconst (v := 3) b dX12_plainest_191 (by decide) ?_
  refine z_aload_n b dX12_plainest_192 rfl rfl ?_
  refine z_iload b dX12_plainest_193 rfl ?_
  refine z_bipush (v := 6) b dX12_plainest_195 (by decide) ?_
  refine z_idiv (v := 5) b dX12_plainest_197 (by decide) (by decide) ?_
  refine z_iload b dX12_plainest_198 rfl ?_
  refine z_calli b (z_runV (q0 := 0) (As := [.int 5, .int 2]) (st := [.int 3]) b (c_X12_renamed_19 (su (su (su S 34 0 3) 34 1 3) 34 2 3) h_a_31_17) cf_X12_renamed (mw_0 cy a (su (su (su S 34 0 3) 34 1 3) 34 2 3)) rfl wm_X12_445 wi_X12_renamed ws_X12_renamed dX12_plainest_200 rfl (Nat.le_of_ble_eq_true rfl) ⟨by decide, by decide, by decide, by decide⟩) (fun r11421 u11422 h11420 => ?_)
  obtain ⟨rfl, rfl⟩ := h11420
  refine z_imul (v := 0) b dX12_plainest_203 (by decide) ?_
  refine z_aload_n b dX12_plainest_204 rfl rfl ?_
  refine z_iload b dX12_plainest_205 rfl ?_
  refine z_bipush (v := 6) b dX12_plainest_207 (by decide) ?_
  refine z_idiv (v := 5) b dX12_plainest_209 (by decide) (by decide) ?_
  refine z_iload b dX12_plainest_210 rfl ?_
  refine z_calli b (z_runV (q0 := 0) (As := [.int 5, .int 1]) (st := [.int 0]) b (c_X12_renamed_18 (su (su (su S 34 0 3) 34 1 3) 34 2 3) h_a_31_16) cf_X12_renamed (mw_0 cy a (su (su (su S 34 0 3) 34 1 3) 34 2 3)) rfl wm_X12_445 wi_X12_renamed ws_X12_renamed dX12_plainest_212 rfl (Nat.le_of_ble_eq_true rfl) ⟨by decide, by decide, by decide, by decide⟩) (fun r11424 u11425 h11423 => ?_)
  obtain ⟨rfl, rfl⟩ := h11423
  refine z_iadd (v := 1) b dX12_plainest_215 (by decide) ?_
  refine z_istore (lv' := [(8, .int 1), (7, .int 1), (6, .int 2), (5, .int 32), (3, .long 1649317774848), (0, .ref (a 0)), (1, .long 1649317774848)]) b dX12_plainest_216 (by decide) rfl ?_
  refine z_aload_n b dX12_plainest_218 rfl rfl ?_
  refine z_get (q0 := 0) (k9 := 1) (v := .ref (a 2)) b (mw_0 cy a (su (su (su S 34 0 3) 34 1 3) 34 2 3)) rfl in_X12 (by decide) wf_X12_17 rfl dX12_plainest_219 ?_
  refine z_iload b dX12_plainest_222 rfl ?_
  refine z_aload_n b dX12_plainest_224 rfl rfl ?_
  refine z_get (q0 := 0) (k9 := 60) (v := .ref (a 35)) b (mw_0 cy a (su (su (su S 34 0 3) 34 1 3) 34 2 3)) rfl in_X12 (by decide) wf_X12_122 rfl dX12_plainest_225 ?_
  refine z_iconst (v := 3) b dX12_plainest_228 (by decide) ?_
  refine z_iload b dX12_plainest_229 rfl ?_
  refine z_imul (v := 6) b dX12_plainest_231 (by decide) ?_
  refine z_iload b dX12_plainest_232 rfl ?_
  refine z_iadd (v := 7) b dX12_plainest_234 (by decide) ?_
  refine y_iald (q0 := 35) (j := 7) (v := (ar (su (su (su S 34 0 3) 34 1 3) 34 2 3) 33 7)) b (mw_35 cy a (su (su (su S 34 0 3) 34 1 3) 34 2 3)) (by decide) rfl dX12_plainest_235 ?_
  refine z_eqi h_a_33_7 ?_
  refine y_iast (q0 := 2) (j := 1) b (mw_2 cy a (su (su (su S 34 0 3) 34 1 3) 34 2 3)) (by decide) dX12_plainest_236 ((mwa_2 cy a (su (su (su S 34 0 3) 34 1 3) 34 2 3) 1 0).trans (congrArg (mw cy a) (su_same h_a_1_1))) ?_
  refine z_aload_n b dX12_plainest_237 rfl rfl ?_
  refine z_get (q0 := 0) (k9 := 3) (v := .ref (a 4)) b (mw_0 cy a (su (su (su S 34 0 3) 34 1 3) 34 2 3)) rfl in_X12 (by decide) wf_X12_23 rfl dX12_plainest_238 ?_
  refine z_iload b dX12_plainest_241 rfl ?_
  refine z_aload_n b dX12_plainest_243 rfl rfl ?_
  refine z_get (q0 := 0) (k9 := 62) (v := .ref (a 37)) b (mw_0 cy a (su (su (su S 34 0 3) 34 1 3) 34 2 3)) rfl in_X12 (by decide) wf_X12_128 rfl dX12_plainest_244 ?_
  refine z_iconst (v := 3) b dX12_plainest_247 (by decide) ?_
  refine z_iload b dX12_plainest_248 rfl ?_
  refine z_imul (v := 6) b dX12_plainest_250 (by decide) ?_
  refine z_iload b dX12_plainest_251 rfl ?_
  refine z_iadd (v := 7) b dX12_plainest_253 (by decide) ?_
  refine y_zald (q0 := 37) (j := 7) (v := (ar (su (su (su S 34 0 3) 34 1 3) 34 2 3) 35 7)) b (mw_37 cy a (su (su (su S 34 0 3) 34 1 3) 34 2 3)) (by decide) rfl dX12_plainest_254 ?_
  refine z_eqi h_a_35_7 ?_
  refine y_zast (q0 := 4) (j := 1) b (mw_4 cy a (su (su (su S 34 0 3) 34 1 3) 34 2 3)) (by decide) (by decide) dX12_plainest_255 ((mwa_4 cy a (su (su (su S 34 0 3) 34 1 3) 34 2 3) 1 0).trans (congrArg (mw cy a) (su_same h_a_3_1))) ?_
  refine z_aload_n b dX12_plainest_256 rfl rfl ?_
  refine z_get (q0 := 0) (k9 := 4) (v := .ref (a 5)) b (mw_0 cy a (su (su (su S 34 0 3) 34 1 3) 34 2 3)) rfl in_X12 (by decide) wf_X12_27 rfl dX12_plainest_257 ?_
  refine z_iload b dX12_plainest_260 rfl ?_
  refine z_aload_n b dX12_plainest_262 rfl rfl ?_
  refine z_get (q0 := 0) (k9 := 63) (v := .ref (a 38)) b (mw_0 cy a (su (su (su S 34 0 3) 34 1 3) 34 2 3)) rfl in_X12 (by decide) wf_X12_131 rfl dX12_plainest_263 ?_
  refine z_iconst (v := 3) b dX12_plainest_266 (by decide) ?_
  refine z_iload b dX12_plainest_267 rfl ?_
  refine z_imul (v := 6) b dX12_plainest_269 (by decide) ?_
  refine z_iload b dX12_plainest_270 rfl ?_
  refine z_iadd (v := 7) b dX12_plainest_272 (by decide) ?_
  refine y_zald (q0 := 38) (j := 7) (v := (ar (su (su (su S 34 0 3) 34 1 3) 34 2 3) 36 7)) b (mw_38 cy a (su (su (su S 34 0 3) 34 1 3) 34 2 3)) (by decide) rfl dX12_plainest_273 ?_
  refine z_eqi h_a_36_7 ?_
  refine y_zast (q0 := 5) (j := 1) b (mw_5 cy a (su (su (su S 34 0 3) 34 1 3) 34 2 3)) (by decide) (by decide) dX12_plainest_274 ((mwa_5 cy a (su (su (su S 34 0 3) 34 1 3) 34 2 3) 1 0).trans (congrArg (mw cy a) (su_same h_a_4_1))) ?_
  refine z_iinc (k9 := 1) (v := 2) (lv' := [(7, .int 2), (8, .int 1), (6, .int 2), (5, .int 32), (3, .long 1649317774848), (0, .ref (a 0)), (1, .long 1649317774848)]) b dX12_plainest_275 rfl (by decide) (by decide) rfl ?_
  refine z_goto (tgt := 185) b dX12_plainest_278 (by decide) ?_
  refine z_iload b dX12_plainest_185 rfl ?_
  refine z_iconst (v := 3) b dX12_plainest_187 (by decide) ?_
  refine z_icmp_ge_f (tgt := 281) b dX12_plainest_188 (by decide) (by decide) ?_
  refine z_iconst (v := 3) b dX12_plainest_191 (by decide) ?_
  refine z_aload_n b dX12_plainest_192 rfl rfl ?_
  refine z_iload b dX12_plainest_193 rfl ?_
  refine z_bipush (v := 6) b dX12_plainest_195 (by decide) ?_
  refine z_idiv (v := 5) b dX12_plainest_197 (by decide) (by decide) ?_
  refine z_iload b dX12_plainest_198 rfl ?_
  refine z_calli b (z_runV (q0 := 0) (As := [.int 5, .int 2]) (st := [.int 3]) b (c_X12_renamed_19 (su (su (su S 34 0 3) 34 1 3) 34 2 3) h_a_31_17) cf_X12_renamed (mw_0 cy a (su (su (su S 34 0 3) 34 1 3) 34 2 3)) rfl wm_X12_445 wi_X12_renamed ws_X12_renamed dX12_plainest_200 rfl (Nat.le_of_ble_eq_true rfl) ⟨by decide, by decide, by decide, by decide⟩) (fun r11427 u11428 h11426 => ?_)
  obtain ⟨rfl, rfl⟩ := h11426
  refine z_imul (v := 0) b dX12_plainest_203 (by decide) ?_
  refine z_aload_n b dX12_plainest_204 rfl rfl ?_
  refine z_iload b dX12_plainest_205 rfl ?_
  refine z_bipush (v := 6) b dX12_plainest_207 (by decide) ?_
  refine z_idiv (v := 5) b dX12_plainest_209 (by decide) (by decide) ?_
  refine z_iload b dX12_plainest_210 rfl ?_
  refine z_calli b (z_runV (q0 := 0) (As := [.int 5, .int 2]) (st := [.int 0]) b (c_X12_renamed_19 (su (su (su S 34 0 3) 34 1 3) 34 2 3) h_a_31_17) cf_X12_renamed (mw_0 cy a (su (su (su S 34 0 3) 34 1 3) 34 2 3)) rfl wm_X12_445 wi_X12_renamed ws_X12_renamed dX12_plainest_212 rfl (Nat.le_of_ble_eq_true rfl) ⟨by decide, by decide, by decide, by decide⟩) (fun r11430 u11431 h11429 => ?_)
  obtain ⟨rfl, rfl⟩ := h11429
  refine z_iadd (v := 0) b dX12_plainest_215 (by decide) ?_
  refine z_istore (lv' := [(8, .int 0), (7, .int 2), (6, .int 2), (5, .int 32), (3, .long 1649317774848), (0, .ref (a 0)), (1, .long 1649317774848)]) b dX12_plainest_216 (by decide) rfl ?_
  refine z_aload_n b dX12_plainest_218 rfl rfl ?_
  refine z_get (q0 := 0) (k9 := 1) (v := .ref (a 2)) b (mw_0 cy a (su (su (su S 34 0 3) 34 1 3) 34 2 3)) rfl in_X12 (by decide) wf_X12_17 rfl dX12_plainest_219 ?_
  refine z_iload b dX12_plainest_222 rfl ?_
  refine z_aload_n b dX12_plainest_224 rfl rfl ?_
  refine z_get (q0 := 0) (k9 := 60) (v := .ref (a 35)) b (mw_0 cy a (su (su (su S 34 0 3) 34 1 3) 34 2 3)) rfl in_X12 (by decide) wf_X12_122 rfl dX12_plainest_225 ?_
  refine z_iconst (v := 3) b dX12_plainest_228 (by decide) ?_
  refine z_iload b dX12_plainest_229 rfl ?_
  refine z_imul (v := 6) b dX12_plainest_231 (by decide) ?_
  refine z_iload b dX12_plainest_232 rfl ?_
  refine z_iadd (v := 8) b dX12_plainest_234 (by decide) ?_
  refine y_iald (q0 := 35) (j := 8) (v := (ar (su (su (su S 34 0 3) 34 1 3) 34 2 3) 33 8)) b (mw_35 cy a (su (su (su S 34 0 3) 34 1 3) 34 2 3)) (by decide) rfl dX12_plainest_235 ?_
  refine z_eqi h_a_33_8 ?_
  refine y_iast (q0 := 2) (j := 0) b (mw_2 cy a (su (su (su S 34 0 3) 34 1 3) 34 2 3)) (by decide) dX12_plainest_236 ((mwa_2 cy a (su (su (su S 34 0 3) 34 1 3) 34 2 3) 0 0).trans (congrArg (mw cy a) (su_same h_a_1_0))) ?_
  refine z_aload_n b dX12_plainest_237 rfl rfl ?_
  refine z_get (q0 := 0) (k9 := 3) (v := .ref (a 4)) b (mw_0 cy a (su (su (su S 34 0 3) 34 1 3) 34 2 3)) rfl in_X12 (by decide) wf_X12_23 rfl dX12_plainest_238 ?_
  refine z_iload b dX12_plainest_241 rfl ?_
  refine z_aload_n b dX12_plainest_243 rfl rfl ?_
  refine z_get (q0 := 0) (k9 := 62) (v := .ref (a 37)) b (mw_0 cy a (su (su (su S 34 0 3) 34 1 3) 34 2 3)) rfl in_X12 (by decide) wf_X12_128 rfl dX12_plainest_244 ?_
  refine z_iconst (v := 3) b dX12_plainest_247 (by decide) ?_
  refine z_iload b dX12_plainest_248 rfl ?_
  refine z_imul (v := 6) b dX12_plainest_250 (by decide) ?_
  refine z_iload b dX12_plainest_251 rfl ?_
  refine z_iadd (v := 8) b dX12_plainest_253 (by decide) ?_
  refine y_zald (q0 := 37) (j := 8) (v := (ar (su (su (su S 34 0 3) 34 1 3) 34 2 3) 35 8)) b (mw_37 cy a (su (su (su S 34 0 3) 34 1 3) 34 2 3)) (by decide) rfl dX12_plainest_254 ?_
  refine z_eqi h_a_35_8 ?_
  refine y_zast (q0 := 4) (j := 0) b (mw_4 cy a (su (su (su S 34 0 3) 34 1 3) 34 2 3)) (by decide) (by decide) dX12_plainest_255 ((mwa_4 cy a (su (su (su S 34 0 3) 34 1 3) 34 2 3) 0 0).trans (congrArg (mw cy a) (su_same h_a_3_0))) ?_
  refine z_aload_n b dX12_plainest_256 rfl rfl ?_
  refine z_get (q0 := 0) (k9 := 4) (v := .ref (a 5)) b (mw_0 cy a (su (su (su S 34 0 3) 34 1 3) 34 2 3)) rfl in_X12 (by decide) wf_X12_27 rfl dX12_plainest_257 ?_
  refine z_iload b dX12_plainest_260 rfl ?_
  refine z_aload_n b dX12_plainest_262 rfl rfl ?_
  exact k

set_option maxHeartbeats 4000000 in
set_option maxRecDepth 100000 in
theorem ch_X12_plainest_333 {p : Program} {l : Launch} {e : Env} {R : Room} {s : State} {m : MethodId} {args : Array Value} {below : List Frame} {meth : Method} {c : Code} {D : va_G} {cy : Nat → ClassId} {T0 tB tE : Nat} {A : Nat → Prop} {Q : State → Prop} {a : Nat → Nat} (S : GS)  (h_a_0_0 : ar S 0 0 = 0) (h_a_0_1 : ar S 0 1 = 0) (h_a_0_2 : ar S 0 2 = 0) (h_a_1_1 : ar S 1 1 = 0) (h_a_1_2 : ar S 1 2 = 0) (h_a_1_3 : ar S 1 3 = 0) (h_a_1_5 : ar S 1 5 = 0) (h_a_1_6 : ar S 1 6 = 0) (h_a_1_7 : ar S 1 7 = 0) (h_a_1_8 : ar S 1 8 = 0) (h_a_2_0 : ar S 2 0 = 3) (h_a_2_1 : ar S 2 1 = 3) (h_a_2_2 : ar S 2 2 = 3) (h_a_31_15 : ar S 31 15 = 2) (h_a_31_9 : ar S 31 9 = 1) (h_a_32_0 : ar S 32 0 = 0) (h_a_33_0 : ar S 33 0 = 0) (h_a_35_0 : ar S 35 0 = 0) (h_a_36_0 : ar S 36 0 = 0) (h_a_36_8 : ar S 36 8 = 0) (h_a_3_1 : ar S 3 1 = 0) (h_a_3_5 : ar S 3 5 = 0) (h_a_3_6 : ar S 3 6 = 0) (h_a_3_8 : ar S 3 8 = 0) (h_a_4_0 : ar S 4 0 = 0) (h_a_4_1 : ar S 4 1 = 0) (h_a_4_2 : ar S 4 2 = 0) (h_a_4_3 : ar S 4 3 = 0) (h_a_4_5 : ar S 4 5 = 0) (h_a_4_6 : ar S 4 6 = 0) (h_a_4_7 : ar S 4 7 = 0) (h_a_4_8 : ar S 4 8 = 0) (h_i_0 : fi S 0 = 0) (b : Bz p R s m args meth c D cy T0 tB tE A 9 cX12_plainest RX12 (some .long) "plainest" 2 47 0 0) (k : Z p l e R s m args below meth c D A 9 Q 0 0 (mw cy a (su (su (su S 34 0 3) 34 1 3) 34 2 3)) [(7, .int 1), (8, .int 8), (6, .int 0), (5, .int 33), (3, .long 1649317774848), (0, .ref (a 0)), (1, .long 1649317774848)] 205 [.ref (a 0), .int 6]) : Z p l e R s m args below meth c D A 9 Q 0 0 (mw cy a (su (su (su S 34 0 3) 34 1 3) 34 2 3)) [(8, .int 0), (7, .int 2), (6, .int 2), (5, .int 32), (3, .long 1649317774848), (0, .ref (a 0)), (1, .long 1649317774848)] 263 [.ref (a 0), .int 0, .ref (a 5)] := by
  refine z_get (q0 := 0) (k9 := 63) (v := .ref (a 38)) b (mw_0 cy a (su (su (su S 34 0 3) 34 1 3) 34 2 3)) rfl in_X12 (by decide) wf_X12_131 rfl dX12_plainest_263 ?_
  refine z_iconst (v := 3) b dX12_plainest_266 (by decide) ?_
  refine z_iload b dX12_plainest_267 rfl ?_
  refine z_imul (v := 6) b dX12_plainest_269 (by decide) ?_
  refine z_iload b dX12_plainest_270 rfl ?_
  refine z_iadd (v := 8) b dX12_plainest_272 (by decide) ?_
  refine y_zald (q0 := 38) (j := 8) (v := (ar (su (su (su S 34 0 3) 34 1 3) 34 2 3) 36 8)) b (mw_38 cy a (su (su (su S 34 0 3) 34 1 3) 34 2 3)) (by decide) rfl dX12_plainest_273 ?_
  refine z_eqi h_a_36_8 ?_
  refine y_zast (q0 := 5) (j := 0) b (mw_5 cy a (su (su (su S 34 0 3) 34 1 3) 34 2 3)) (by decide) (by decide) dX12_plainest_274 ((mwa_5 cy a (su (su (su S 34 0 3) 34 1 3) 34 2 3) 0 0).trans (congrArg (mw cy a) (su_same h_a_4_0))) ?_
  refine z_iinc (k9 := 1) (v := 3) (lv' := [(7, .int 3), (8, .int 0), (6, .int 2), (5, .int 32), (3, .long 1649317774848), (0, .ref (a 0)), (1, .long 1649317774848)]) b dX12_plainest_275 rfl (by decide) (by decide) rfl ?_
  refine z_goto (tgt := 185) b dX12_plainest_278 (by decide) ?_
  refine z_iload b dX12_plainest_185 rfl ?_
  refine z_iconst (v := 3) b dX12_plainest_187 (by decide) ?_
  refine z_icmp_ge_t (tgt := 281) b dX12_plainest_188 (by decide) (by decide) ?_
  refine z_iinc (k9 := 2) (v := 3) (lv' := [(6, .int 3), (7, .int 3), (8, .int 0), (5, .int 32), (3, .long 1649317774848), (0, .ref (a 0)), (1, .long 1649317774848)]) b dX12_plainest_281 rfl (by decide) (by decide) rfl ?_
  refine z_goto (tgt := 121) b dX12_plainest_284 (by decide) ?_
  refine z_iload b dX12_plainest_121 rfl ?_
  refine z_iconst (v := 3) b dX12_plainest_123 (by decide) ?_
  refine z_icmp_ge_t (tgt := 287) b dX12_plainest_124 (by decide) (by decide) ?_
  refine z_aload_n b dX12_plainest_287 rfl rfl ?_
  refine z_calll b (z_runV (q0 := 0) (As := []) (st := []) b (c_X12_packs_14 (su (su (su S 34 0 3) 34 1 3) 34 2 3) h_i_0 h_a_0_0 h_a_2_0 h_a_3_1 h_a_1_1 h_a_4_1 h_a_1_2 h_a_4_2 h_a_0_1 h_a_2_1 h_a_3_5 h_a_1_5 h_a_4_5 h_a_1_3 h_a_4_3 h_a_0_2 h_a_2_2 h_a_3_6 h_a_1_6 h_a_4_6 h_a_1_7 h_a_4_7) cf_X12_packs (mw_0 cy a (su (su (su S 34 0 3) 34 1 3) 34 2 3)) rfl wm_X12_149 wi_X12_packs ws_X12_packs dX12_plainest_288 rfl (Nat.le_of_ble_eq_true rfl) ⟨by decide, by decide, by decide, by decide⟩) (fun r11433 u11434 h11432 => ?_)
  obtain ⟨rfl, rfl⟩ := h11432
  refine z_lstore (lv' := [(6, .long 1649317774848), (8, .int 0), (5, .int 32), (3, .long 1649317774848), (0, .ref (a 0)), (1, .long 1649317774848)]) b dX12_plainest_291 (by decide) rfl ?_
  refine z_lload b dX12_plainest_293 rfl ?_
  refine z_lload_n b dX12_plainest_295 rfl rfl ?_
  refine z_lcmp (v := 0) b dX12_plainest_296 (by decide) ?_
  refine z_if_ge_t (tgt := 305) b dX12_plainest_297 (by decide) (by decide) ?_
  refine z_lload_n b dX12_plainest_305 rfl rfl ?_
  refine z_lstore_n (lv' := [(3, .long 1649317774848), (6, .long 1649317774848), (8, .int 0), (5, .int 32), (0, .ref (a 0)), (1, .long 1649317774848)]) b dX12_plainest_306 rfl (by decide) rfl ?_
  refine z_iinc (k9 := 3) (v := 33) (lv' := [(5, .int 33), (3, .long 1649317774848), (6, .long 1649317774848), (8, .int 0), (0, .ref (a 0)), (1, .long 1649317774848)]) b dX12_plainest_307 rfl (by decide) (by decide) rfl ?_
  refine z_goto (tgt := 111) b dX12_plainest_310 (by decide) ?_
  refine z_iload b dX12_plainest_111 rfl ?_
  refine z_bipush (v := 36) b dX12_plainest_113 (by decide) ?_
  refine z_icmp_ge_f (tgt := 313) b dX12_plainest_115 (by decide) (by decide) ?_
  refine z_iconst (v := 0) b dX12_plainest_118 (by decide) ?_
  refine z_istore (lv' := [(6, .int 0), (5, .int 33), (3, .long 1649317774848), (8, .int 0), (0, .ref (a 0)), (1, .long 1649317774848)]) b dX12_plainest_119 (by decide) rfl ?_
  refine z_iload b dX12_plainest_121 rfl ?_
  refine z_iconst (v := 3) b dX12_plainest_123 (by decide) ?_
  refine z_icmp_ge_f (tgt := 287) b dX12_plainest_124 (by decide) (by decide) ?_
  refine z_aload_n b dX12_plainest_127 rfl rfl ?_
  refine z_get (q0 := 0) (k9 := 0) (v := .ref (a 1)) b (mw_0 cy a (su (su (su S 34 0 3) 34 1 3) 34 2 3)) rfl in_X12 (by decide) wf_X12_13 rfl dX12_plainest_128 ?_
  refine z_aload_n b dX12_plainest_131 rfl rfl ?_
  refine z_iload b dX12_plainest_132 rfl ?_
  refine z_bipush (v := 6) b dX12_plainest_134 (by decide) ?_
  refine z_idiv (v := 5) b dX12_plainest_136 (by decide) (by decide) ?_
  refine z_iload b dX12_plainest_137 rfl ?_
  refine z_calli b (z_runV (q0 := 0) (As := [.int 5, .int 0]) (st := [.ref (a 1)]) b (c_X12_renamed_17 (su (su (su S 34 0 3) 34 1 3) 34 2 3) h_a_31_15) cf_X12_renamed (mw_0 cy a (su (su (su S 34 0 3) 34 1 3) 34 2 3)) rfl wm_X12_445 wi_X12_renamed ws_X12_renamed dX12_plainest_139 rfl (Nat.le_of_ble_eq_true rfl) ⟨by decide, by decide, by decide, by decide⟩) (fun r11436 u11437 h11435 => ?_)
  obtain ⟨rfl, rfl⟩ := h11435
  refine z_aload_n b dX12_plainest_142 rfl rfl ?_
  refine z_get (q0 := 0) (k9 := 59) (v := .ref (a 34)) b (mw_0 cy a (su (su (su S 34 0 3) 34 1 3) 34 2 3)) rfl in_X12 (by decide) wf_X12_119 rfl dX12_plainest_143 ?_
  refine z_iload b dX12_plainest_146 rfl ?_
  refine y_iald (q0 := 34) (j := 0) (v := (ar (su (su (su S 34 0 3) 34 1 3) 34 2 3) 32 0)) b (mw_34 cy a (su (su (su S 34 0 3) 34 1 3) 34 2 3)) (by decide) rfl dX12_plainest_148 ?_
  refine z_eqi h_a_32_0 ?_
  refine y_iast (q0 := 1) (j := 2) b (mw_1 cy a (su (su (su S 34 0 3) 34 1 3) 34 2 3)) (by decide) dX12_plainest_149 ((mwa_1 cy a (su (su (su S 34 0 3) 34 1 3) 34 2 3) 2 0).trans (congrArg (mw cy a) (su_same h_a_0_2))) ?_
  refine z_aload_n b dX12_plainest_150 rfl rfl ?_
  refine z_get (q0 := 0) (k9 := 2) (v := .ref (a 3)) b (mw_0 cy a (su (su (su S 34 0 3) 34 1 3) 34 2 3)) rfl in_X12 (by decide) wf_X12_20 rfl dX12_plainest_151 ?_
  refine z_aload_n b dX12_plainest_154 rfl rfl ?_
  refine z_iload b dX12_plainest_155 rfl ?_
  refine z_bipush (v := 6) b dX12_plainest_157 (by decide) ?_
  refine z_irem (v := 3) b dX12_plainest_159 (by decide) (by decide) ?_
  refine z_iload b dX12_plainest_160 rfl ?_
  refine z_calli b (z_runV (q0 := 0) (As := [.int 3, .int 0]) (st := [.ref (a 3)]) b (c_X12_renamed_11 (su (su (su S 34 0 3) 34 1 3) 34 2 3) h_a_31_9) cf_X12_renamed (mw_0 cy a (su (su (su S 34 0 3) 34 1 3) 34 2 3)) rfl wm_X12_445 wi_X12_renamed ws_X12_renamed dX12_plainest_162 rfl (Nat.le_of_ble_eq_true rfl) ⟨by decide, by decide, by decide, by decide⟩) (fun r11439 u11440 h11438 => ?_)
  obtain ⟨rfl, rfl⟩ := h11438
  refine z_aload_n b dX12_plainest_165 rfl rfl ?_
  refine z_iload b dX12_plainest_166 rfl ?_
  refine z_bipush (v := 6) b dX12_plainest_168 (by decide) ?_
  refine z_idiv (v := 5) b dX12_plainest_170 (by decide) (by decide) ?_
  refine z_aload_n b dX12_plainest_171 rfl rfl ?_
  refine z_get (q0 := 0) (k9 := 61) (v := .ref (a 36)) b (mw_0 cy a (su (su (su S 34 0 3) 34 1 3) 34 2 3)) rfl in_X12 (by decide) wf_X12_125 rfl dX12_plainest_172 ?_
  refine z_iload b dX12_plainest_175 rfl ?_
  refine y_iald (q0 := 36) (j := 0) (v := 3) b (mw_36 cy a (su (su (su S 34 0 3) 34 1 3) 34 2 3)) (by decide) rfl dX12_plainest_177 ?_
  refine z_calli b (z_runV (q0 := 0) (As := [.int 5, .int 3]) (st := [.int 1, .ref (a 3)]) b (c_X12_renamed_24 (su (su (su S 34 0 3) 34 1 3) 34 2 3) ) cf_X12_renamed (mw_0 cy a (su (su (su S 34 0 3) 34 1 3) 34 2 3)) rfl wm_X12_445 wi_X12_renamed ws_X12_renamed dX12_plainest_178 rfl (Nat.le_of_ble_eq_true rfl) ⟨by decide, by decide, by decide, by decide⟩) (fun r11442 u11443 h11441 => ?_)
  obtain ⟨rfl, rfl⟩ := h11441
  refine y_iast (q0 := 3) (j := 1) b (mw_3 cy a (su (su (su S 34 0 3) 34 1 3) 34 2 3)) (by decide) dX12_plainest_181 ((mwa_3 cy a (su (su (su S 34 0 3) 34 1 3) 34 2 3) 1 3).trans (congrArg (mw cy a) (su_same h_a_2_1))) ?_
  refine z_iconst (v := 0) b dX12_plainest_182 (by decide) ?_
  refine z_istore (lv' := [(7, .int 0), (6, .int 0), (5, .int 33), (3, .long 1649317774848), (8, .int 0), (0, .ref (a 0)), (1, .long 1649317774848)]) b dX12_plainest_183 (by decide) rfl ?_
  refine z_iload b dX12_plainest_185 rfl ?_
  refine z_iconst (v := 3) b dX12_plainest_187 (by decide) ?_
  refine z_icmp_ge_f (tgt := 281) b dX12_plainest_188 (by decide) (by decide) ?_
  refine z_iconst (v := 3) b dX12_plainest_191 (by decide) ?_
  refine z_aload_n b dX12_plainest_192 rfl rfl ?_
  refine z_iload b dX12_plainest_193 rfl ?_
  refine z_bipush (v := 6) b dX12_plainest_195 (by decide) ?_
  refine z_idiv (v := 5) b dX12_plainest_197 (by decide) (by decide) ?_
  refine z_iload b dX12_plainest_198 rfl ?_
  refine z_calli b (z_runV (q0 := 0) (As := [.int 5, .int 0]) (st := [.int 3]) b (c_X12_renamed_17 (su (su (su S 34 0 3) 34 1 3) 34 2 3) h_a_31_15) cf_X12_renamed (mw_0 cy a (su (su (su S 34 0 3) 34 1 3) 34 2 3)) rfl wm_X12_445 wi_X12_renamed ws_X12_renamed dX12_plainest_200 rfl (Nat.le_of_ble_eq_true rfl) ⟨by decide, by decide, by decide, by decide⟩) (fun r11445 u11446 h11444 => ?_)
  obtain ⟨rfl, rfl⟩ := h11444
  refine z_imul (v := 6) b dX12_plainest_203 (by decide) ?_
  refine z_aload_n b dX12_plainest_204 rfl rfl ?_
  refine z_iload b dX12_plainest_205 rfl ?_
  refine z_bipush (v := 6) b dX12_plainest_207 (by decide) ?_
  refine z_idiv (v := 5) b dX12_plainest_209 (by decide) (by decide) ?_
  refine z_iload b dX12_plainest_210 rfl ?_
  refine z_calli b (z_runV (q0 := 0) (As := [.int 5, .int 0]) (st := [.int 6]) b (c_X12_renamed_17 (su (su (su S 34 0 3) 34 1 3) 34 2 3) h_a_31_15) cf_X12_renamed (mw_0 cy a (su (su (su S 34 0 3) 34 1 3) 34 2 3)) rfl wm_X12_445 wi_X12_renamed ws_X12_renamed dX12_plainest_212 rfl (Nat.le_of_ble_eq_true rfl) ⟨by decide, by decide, by decide, by decide⟩) (fun r11448 u11449 h11447 => ?_)
  obtain ⟨rfl, rfl⟩ := h11447
  refine z_iadd (v := 8) b dX12_plainest_215 (by decide) ?_
  refine z_istore (lv' := [(8, .int 8), (7, .int 0), (6, .int 0), (5, .int 33), (3, .long 1649317774848), (0, .ref (a 0)), (1, .long 1649317774848)]) b dX12_plainest_216 (by decide) rfl ?_
  refine z_aload_n b dX12_plainest_218 rfl rfl ?_
  refine z_get (q0 := 0) (k9 := 1) (v := .ref (a 2)) b (mw_0 cy a (su (su (su S 34 0 3) 34 1 3) 34 2 3)) rfl in_X12 (by decide) wf_X12_17 rfl dX12_plainest_219 ?_
  refine z_iload b dX12_plainest_222 rfl ?_
  refine z_aload_n b dX12_plainest_224 rfl rfl ?_
  refine z_get (q0 := 0) (k9 := 60) (v := .ref (a 35)) b (mw_0 cy a (su (su (su S 34 0 3) 34 1 3) 34 2 3)) rfl in_X12 (by decide) wf_X12_122 rfl dX12_plainest_225 ?_
  refine z_iconst (v := 3) b dX12_plainest_228 (by decide) ?_
  refine z_iload b dX12_plainest_229 rfl ?_
  refine z_imul (v := 0) b dX12_plainest_231 (by decide) ?_
  refine z_iload b dX12_plainest_232 rfl ?_
  refine z_iadd (v := 0) b dX12_plainest_234 (by decide) ?_
  refine y_iald (q0 := 35) (j := 0) (v := (ar (su (su (su S 34 0 3) 34 1 3) 34 2 3) 33 0)) b (mw_35 cy a (su (su (su S 34 0 3) 34 1 3) 34 2 3)) (by decide) rfl dX12_plainest_235 ?_
  refine z_eqi h_a_33_0 ?_
  refine y_iast (q0 := 2) (j := 8) b (mw_2 cy a (su (su (su S 34 0 3) 34 1 3) 34 2 3)) (by decide) dX12_plainest_236 ((mwa_2 cy a (su (su (su S 34 0 3) 34 1 3) 34 2 3) 8 0).trans (congrArg (mw cy a) (su_same h_a_1_8))) ?_
  refine z_aload_n b dX12_plainest_237 rfl rfl ?_
  refine z_get (q0 := 0) (k9 := 3) (v := .ref (a 4)) b (mw_0 cy a (su (su (su S 34 0 3) 34 1 3) 34 2 3)) rfl in_X12 (by decide) wf_X12_23 rfl dX12_plainest_238 ?_
  refine z_iload b dX12_plainest_241 rfl ?_
  refine z_aload_n b dX12_plainest_243 rfl rfl ?_
  refine z_get (q0 := 0) (k9 := 62) (v := .ref (a 37)) b (mw_0 cy a (su (su (su S 34 0 3) 34 1 3) 34 2 3)) rfl in_X12 (by decide) wf_X12_128 rfl dX12_plainest_244 ?_
  refine z_iconst (v := 3) b dX12_plainest_247 (by decide) ?_
  refine z_iload b dX12_plainest_248 rfl ?_
  refine z_imul (v := 0) b dX12_plainest_250 (by decide) ?_
  refine z_iload b dX12_plainest_251 rfl ?_
  refine z_iadd (v := 0) b dX12_plainest_253 (by decide) ?_
  refine y_zald (q0 := 37) (j := 0) (v := (ar (su (su (su S 34 0 3) 34 1 3) 34 2 3) 35 0)) b (mw_37 cy a (su (su (su S 34 0 3) 34 1 3) 34 2 3)) (by decide) rfl dX12_plainest_254 ?_
  refine z_eqi h_a_35_0 ?_
  refine y_zast (q0 := 4) (j := 8) b (mw_4 cy a (su (su (su S 34 0 3) 34 1 3) 34 2 3)) (by decide) (by decide) dX12_plainest_255 ((mwa_4 cy a (su (su (su S 34 0 3) 34 1 3) 34 2 3) 8 0).trans (congrArg (mw cy a) (su_same h_a_3_8))) ?_
  refine z_aload_n b dX12_plainest_256 rfl rfl ?_
  refine z_get (q0 := 0) (k9 := 4) (v := .ref (a 5)) b (mw_0 cy a (su (su (su S 34 0 3) 34 1 3) 34 2 3)) rfl in_X12 (by decide) wf_X12_27 rfl dX12_plainest_257 ?_
  refine z_iload b dX12_plainest_260 rfl ?_
  refine z_aload_n b dX12_plainest_262 rfl rfl ?_
  refine z_get (q0 := 0) (k9 := 63) (v := .ref (a 38)) b (mw_0 cy a (su (su (su S 34 0 3) 34 1 3) 34 2 3)) rfl in_X12 (by decide) wf_X12_131 rfl dX12_plainest_263 ?_
  refine z_iconst (v := 3) b dX12_plainest_266 (by decide) ?_
  refine z_iload b dX12_plainest_267 rfl ?_
  refine z_imul (v := 0) b dX12_plainest_269 (by decide) ?_
  refine z_iload b dX12_plainest_270 rfl ?_
  refine z_iadd (v := 0) b dX12_plainest_272 (by decide) ?_
  refine y_zald (q0 := 38) (j := 0) (v := (ar (su (su (su S 34 0 3) 34 1 3) 34 2 3) 36 0)) b (mw_38 cy a (su (su (su S 34 0 3) 34 1 3) 34 2 3)) (by decide) rfl dX12_plainest_273 ?_
  refine z_eqi h_a_36_0 ?_
  refine y_zast (q0 := 5) (j := 8) b (mw_5 cy a (su (su (su S 34 0 3) 34 1 3) 34 2 3)) (by decide) (by decide) dX12_plainest_274 ((mwa_5 cy a (su (su (su S 34 0 3) 34 1 3) 34 2 3) 8 0).trans (congrArg (mw cy a) (su_same h_a_4_8))) ?_
  refine z_iinc (k9 := 1) (v := 1) (lv' := [(7, .int 1), (8, .int 8), (6, .int 0), (5, .int 33), (3, .long 1649317774848), (0, .ref (a 0)), (1, .long 1649317774848)]) b dX12_plainest_275 rfl (by decide) (by decide) rfl ?_
  refine z_goto (tgt := 185) b dX12_plainest_278 (by decide) ?_
  refine z_iload b dX12_plainest_185 rfl ?_
  refine z_iconst (v := 3) b dX12_plainest_187 (by decide) ?_
  refine z_icmp_ge_f (tgt := 281) b dX12_plainest_188 (by decide) (by decide) ?_
  refine z_iconst (v := 3) b dX12_plainest_191 (by decide) ?_
  refine z_aload_n b dX12_plainest_192 rfl rfl ?_
  refine z_iload b dX12_plainest_193 rfl ?_
  refine z_bipush (v := 6) b dX12_plainest_195 (by decide) ?_
  refine z_idiv (v := 5) b dX12_plainest_197 (by decide) (by decide) ?_
  refine z_iload b dX12_plainest_198 rfl ?_
  refine z_calli b (z_runV (q0 := 0) (As := [.int 5, .int 0]) (st := [.int 3]) b (c_X12_renamed_17 (su (su (su S 34 0 3) 34 1 3) 34 2 3) h_a_31_15) cf_X12_renamed (mw_0 cy a (su (su (su S 34 0 3) 34 1 3) 34 2 3)) rfl wm_X12_445 wi_X12_renamed ws_X12_renamed dX12_plainest_200 rfl (Nat.le_of_ble_eq_true rfl) ⟨by decide, by decide, by decide, by decide⟩) (fun r11451 u11452 h11450 => ?_)
  obtain ⟨rfl, rfl⟩ := h11450
  refine z_imul (v := 6) b dX12_plainest_203 (by decide) ?_
  refine z_aload_n b dX12_plainest_204 rfl rfl ?_
  exact k

set_option maxHeartbeats 4000000 in
set_option maxRecDepth 100000 in
theorem ch_X12_plainest_334 {p : Program} {l : Launch} {e : Env} {R : Room} {s : State} {m : MethodId} {args : Array Value} {below : List Frame} {meth : Method} {c : Code} {D : va_G} {cy : Nat → ClassId} {T0 tB tE : Nat} {A : Nat → Prop} {Q : State → Prop} {a : Nat → Nat} (S : GS)  (h_a_0_1 : ar S 0 1 = 0) (h_a_1_6 : ar S 1 6 = 0) (h_a_1_7 : ar S 1 7 = 0) (h_a_31_10 : ar S 31 10 = 2) (h_a_31_15 : ar S 31 15 = 2) (h_a_31_16 : ar S 31 16 = 1) (h_a_31_17 : ar S 31 17 = 0) (h_a_32_1 : ar S 32 1 = 0) (h_a_33_1 : ar S 33 1 = 0) (h_a_33_2 : ar S 33 2 = 0) (h_a_35_1 : ar S 35 1 = 0) (h_a_35_2 : ar S 35 2 = 0) (h_a_36_1 : ar S 36 1 = 0) (h_a_36_2 : ar S 36 2 = 0) (h_a_3_6 : ar S 3 6 = 0) (h_a_3_7 : ar S 3 7 = 0) (h_a_4_6 : ar S 4 6 = 0) (h_a_4_7 : ar S 4 7 = 0) (b : Bz p R s m args meth c D cy T0 tB tE A 9 cX12_plainest RX12 (some .long) "plainest" 2 47 0 0) (k : Z p l e R s m args below meth c D A 9 Q 0 0 (mw cy a (su (su (su S 34 0 3) 34 1 3) 34 2 3)) [(6, .int 1), (7, .int 3), (8, .int 6), (5, .int 33), (3, .long 1649317774848), (0, .ref (a 0)), (1, .long 1649317774848)] 178 [.int 3, .int 5, .ref (a 0), .int 2, .ref (a 3)]) : Z p l e R s m args below meth c D A 9 Q 0 0 (mw cy a (su (su (su S 34 0 3) 34 1 3) 34 2 3)) [(7, .int 1), (8, .int 8), (6, .int 0), (5, .int 33), (3, .long 1649317774848), (0, .ref (a 0)), (1, .long 1649317774848)] 205 [.ref (a 0), .int 6] := by
  refine z_iload b dX12_plainest_205 rfl ?_
  refine z_bipush (v := 6) b dX12_plainest_207 (by decide) ?_
  refine z_idiv (v := 5) b dX12_plainest_209 (by decide) (by decide) ?_
  refine z_iload b dX12_plainest_210 rfl ?_
  refine z_calli b (z_runV (q0 := 0) (As := [.int 5, .int 1]) (st := [.int 6]) b (c_X12_renamed_18 (su (su (su S 34 0 3) 34 1 3) 34 2 3) h_a_31_16) cf_X12_renamed (mw_0 cy a (su (su (su S 34 0 3) 34 1 3) 34 2 3)) rfl wm_X12_445 wi_X12_renamed ws_X12_renamed dX12_plainest_212 rfl (Nat.le_of_ble_eq_true rfl) ⟨by decide, by decide, by decide, by decide⟩) (fun r11454 u11455 h11453 => ?_)
  obtain ⟨rfl, rfl⟩ := h11453
  refine z_iadd (v := 7) b dX12_plainest_215 (by decide) ?_
  refine z_istore (lv' := [(8, .int 7), (7, .int 1), (6, .int 0), (5, .int 33), (3, .long 1649317774848), (0, .ref (a 0)), (1, .long 1649317774848)]) b dX12_plainest_216 (by decide) rfl ?_
  refine z_aload_n b dX12_plainest_218 rfl rfl ?_
  refine z_get (q0 := 0) (k9 := 1) (v := .ref (a 2)) b (mw_0 cy a (su (su (su S 34 0 3) 34 1 3) 34 2 3)) rfl in_X12 (by decide) wf_X12_17 rfl dX12_plainest_219 ?_
  refine z_iload b dX12_plainest_222 rfl ?_
  refine z_aload_n b dX12_plainest_224 rfl rfl ?_
  refine z_get (q0 := 0) (k9 := 60) (v := .ref (a 35)) b (mw_0 cy a (su (su (su S 34 0 3) 34 1 3) 34 2 3)) rfl in_X12 (by decide) wf_X12_122 rfl dX12_plainest_225 ?_
  refine z_iconst (v := 3) b dX12_plainest_228 (by decide) ?_
  refine z_iload b dX12_plainest_229 rfl ?_
  refine z_imul (v := 0) b dX12_plainest_231 (by decide) ?_
  refine z_iload b dX12_plainest_232 rfl ?_
  refine z_iadd (v := 1) b dX12_plainest_234 (by decide) ?_
  refine y_iald (q0 := 35) (j := 1) (v := (ar (su (su (su S 34 0 3) 34 1 3) 34 2 3) 33 1)) b (mw_35 cy a (su (su (su S 34 0 3) 34 1 3) 34 2 3)) (by decide) rfl dX12_plainest_235 ?_
  refine z_eqi h_a_33_1 ?_
  refine y_iast (q0 := 2) (j := 7) b (mw_2 cy a (su (su (su S 34 0 3) 34 1 3) 34 2 3)) (by decide) dX12_plainest_236 ((mwa_2 cy a (su (su (su S 34 0 3) 34 1 3) 34 2 3) 7 0).trans (congrArg (mw cy a) (su_same h_a_1_7))) ?_
  refine z_aload_n b dX12_plainest_237 rfl rfl ?_
  refine z_get (q0 := 0) (k9 := 3) (v := .ref (a 4)) b (mw_0 cy a (su (su (su S 34 0 3) 34 1 3) 34 2 3)) rfl in_X12 (by decide) wf_X12_23 rfl dX12_plainest_238 ?_
  refine z_iload b dX12_plainest_241 rfl ?_
  refine z_aload_n b dX12_plainest_243 rfl rfl ?_
  refine z_get (q0 := 0) (k9 := 62) (v := .ref (a 37)) b (mw_0 cy a (su (su (su S 34 0 3) 34 1 3) 34 2 3)) rfl in_X12 (by decide) wf_X12_128 rfl dX12_plainest_244 ?_
  refine z_iconst (v := 3) b dX12_plainest_247 (by decide) ?_
  refine z_iload b dX12_plainest_248 rfl ?_
  refine z_imul (v := 0) b dX12_plainest_250 (by decide) ?_
  refine z_iload b dX12_plainest_251 rfl ?_
  refine z_iadd (v := 1) b dX12_plainest_253 (by decide) ?_
  refine y_zald (q0 := 37) (j := 1) (v := (ar (su (su (su S 34 0 3) 34 1 3) 34 2 3) 35 1)) b (mw_37 cy a (su (su (su S 34 0 3) 34 1 3) 34 2 3)) (by decide) rfl dX12_plainest_254 ?_
  refine z_eqi h_a_35_1 ?_
  refine y_zast (q0 := 4) (j := 7) b (mw_4 cy a (su (su (su S 34 0 3) 34 1 3) 34 2 3)) (by decide) (by decide) dX12_plainest_255 ((mwa_4 cy a (su (su (su S 34 0 3) 34 1 3) 34 2 3) 7 0).trans (congrArg (mw cy a) (su_same h_a_3_7))) ?_
  refine z_aload_n b dX12_plainest_256 rfl rfl ?_
  refine z_get (q0 := 0) (k9 := 4) (v := .ref (a 5)) b (mw_0 cy a (su (su (su S 34 0 3) 34 1 3) 34 2 3)) rfl in_X12 (by decide) wf_X12_27 rfl dX12_plainest_257 ?_
  refine z_iload b dX12_plainest_260 rfl ?_
  refine z_aload_n b dX12_plainest_262 rfl rfl ?_
  refine z_get (q0 := 0) (k9 := 63) (v := .ref (a 38)) b (mw_0 cy a (su (su (su S 34 0 3) 34 1 3) 34 2 3)) rfl in_X12 (by decide) wf_X12_131 rfl dX12_plainest_263 ?_
  refine z_iconst (v := 3) b dX12_plainest_266 (by decide) ?_
  refine z_iload b dX12_plainest_267 rfl ?_
  refine z_imul (v := 0) b dX12_plainest_269 (by decide) ?_
  refine z_iload b dX12_plainest_270 rfl ?_
  refine z_iadd (v := 1) b dX12_plainest_272 (by decide) ?_
  refine y_zald (q0 := 38) (j := 1) (v := (ar (su (su (su S 34 0 3) 34 1 3) 34 2 3) 36 1)) b (mw_38 cy a (su (su (su S 34 0 3) 34 1 3) 34 2 3)) (by decide) rfl dX12_plainest_273 ?_
  refine z_eqi h_a_36_1 ?_
  refine y_zast (q0 := 5) (j := 7) b (mw_5 cy a (su (su (su S 34 0 3) 34 1 3) 34 2 3)) (by decide) (by decide) dX12_plainest_274 ((mwa_5 cy a (su (su (su S 34 0 3) 34 1 3) 34 2 3) 7 0).trans (congrArg (mw cy a) (su_same h_a_4_7))) ?_
  refine z_iinc (k9 := 1) (v := 2) (lv' := [(7, .int 2), (8, .int 7), (6, .int 0), (5, .int 33), (3, .long 1649317774848), (0, .ref (a 0)), (1, .long 1649317774848)]) b dX12_plainest_275 rfl (by decide) (by decide) rfl ?_
  refine z_goto (tgt := 185) b dX12_plainest_278 (by decide) ?_
  refine z_iload b dX12_plainest_185 rfl ?_
  refine z_iconst (v := 3) b dX12_plainest_187 (by decide) ?_
  refine z_icmp_ge_f (tgt := 281) b dX12_plainest_188 (by decide) (by decide) ?_
  refine z_iconst (v := 3) b dX12_plainest_191 (by decide) ?_
  refine z_aload_n b dX12_plainest_192 rfl rfl ?_
  refine z_iload b dX12_plainest_193 rfl ?_
  refine z_bipush (v := 6) b dX12_plainest_195 (by decide) ?_
  refine z_idiv (v := 5) b dX12_plainest_197 (by decide) (by decide) ?_
  refine z_iload b dX12_plainest_198 rfl ?_
  refine z_calli b (z_runV (q0 := 0) (As := [.int 5, .int 0]) (st := [.int 3]) b (c_X12_renamed_17 (su (su (su S 34 0 3) 34 1 3) 34 2 3) h_a_31_15) cf_X12_renamed (mw_0 cy a (su (su (su S 34 0 3) 34 1 3) 34 2 3)) rfl wm_X12_445 wi_X12_renamed ws_X12_renamed dX12_plainest_200 rfl (Nat.le_of_ble_eq_true rfl) ⟨by decide, by decide, by decide, by decide⟩) (fun r11457 u11458 h11456 => ?_)
  obtain ⟨rfl, rfl⟩ := h11456
  refine z_imul (v := 6) b dX12_plainest_203 (by decide) ?_
  refine z_aload_n b dX12_plainest_204 rfl rfl ?_
  refine z_iload b dX12_plainest_205 rfl ?_
  refine z_bipush (v := 6) b dX12_plainest_207 (by decide) ?_
  refine z_idiv (v := 5) b dX12_plainest_209 (by decide) (by decide) ?_
  refine z_iload b dX12_plainest_210 rfl ?_
  refine z_calli b (z_runV (q0 := 0) (As := [.int 5, .int 2]) (st := [.int 6]) b (c_X12_renamed_19 (su (su (su S 34 0 3) 34 1 3) 34 2 3) h_a_31_17) cf_X12_renamed (mw_0 cy a (su (su (su S 34 0 3) 34 1 3) 34 2 3)) rfl wm_X12_445 wi_X12_renamed ws_X12_renamed dX12_plainest_212 rfl (Nat.le_of_ble_eq_true rfl) ⟨by decide, by decide, by decide, by decide⟩) (fun r11460 u11461 h11459 => ?_)
  obtain ⟨rfl, rfl⟩ := h11459
  refine z_iadd (v := 6) b dX12_plainest_215 (by decide) ?_
  refine z_istore (lv' := [(8, .int 6), (7, .int 2), (6, .int 0), (5, .int 33), (3, .long 1649317774848), (0, .ref (a 0)), (1, .long 1649317774848)]) b dX12_plainest_216 (by decide) rfl ?_
  refine z_aload_n b dX12_plainest_218 rfl rfl ?_
  refine z_get (q0 := 0) (k9 := 1) (v := .ref (a 2)) b (mw_0 cy a (su (su (su S 34 0 3) 34 1 3) 34 2 3)) rfl in_X12 (by decide) wf_X12_17 rfl dX12_plainest_219 ?_
  refine z_iload b dX12_plainest_222 rfl ?_
  refine z_aload_n b dX12_plainest_224 rfl rfl ?_
  refine z_get (q0 := 0) (k9 := 60) (v := .ref (a 35)) b (mw_0 cy a (su (su (su S 34 0 3) 34 1 3) 34 2 3)) rfl in_X12 (by decide) wf_X12_122 rfl dX12_plainest_225 ?_
  refine z_iconst (v := 3) b dX12_plainest_228 (by decide) ?_
  refine z_iload b dX12_plainest_229 rfl ?_
  refine z_imul (v := 0) b dX12_plainest_231 (by decide) ?_
  refine z_iload b dX12_plainest_232 rfl ?_
  refine z_iadd (v := 2) b dX12_plainest_234 (by decide) ?_
  refine y_iald (q0 := 35) (j := 2) (v := (ar (su (su (su S 34 0 3) 34 1 3) 34 2 3) 33 2)) b (mw_35 cy a (su (su (su S 34 0 3) 34 1 3) 34 2 3)) (by decide) rfl dX12_plainest_235 ?_
  refine z_eqi h_a_33_2 ?_
  refine y_iast (q0 := 2) (j := 6) b (mw_2 cy a (su (su (su S 34 0 3) 34 1 3) 34 2 3)) (by decide) dX12_plainest_236 ((mwa_2 cy a (su (su (su S 34 0 3) 34 1 3) 34 2 3) 6 0).trans (congrArg (mw cy a) (su_same h_a_1_6))) ?_
  refine z_aload_n b dX12_plainest_237 rfl rfl ?_
  refine z_get (q0 := 0) (k9 := 3) (v := .ref (a 4)) b (mw_0 cy a (su (su (su S 34 0 3) 34 1 3) 34 2 3)) rfl in_X12 (by decide) wf_X12_23 rfl dX12_plainest_238 ?_
  refine z_iload b dX12_plainest_241 rfl ?_
  refine z_aload_n b dX12_plainest_243 rfl rfl ?_
  refine z_get (q0 := 0) (k9 := 62) (v := .ref (a 37)) b (mw_0 cy a (su (su (su S 34 0 3) 34 1 3) 34 2 3)) rfl in_X12 (by decide) wf_X12_128 rfl dX12_plainest_244 ?_
  refine z_iconst (v := 3) b dX12_plainest_247 (by decide) ?_
  refine z_iload b dX12_plainest_248 rfl ?_
  refine z_imul (v := 0) b dX12_plainest_250 (by decide) ?_
  refine z_iload b dX12_plainest_251 rfl ?_
  refine z_iadd (v := 2) b dX12_plainest_253 (by decide) ?_
  refine y_zald (q0 := 37) (j := 2) (v := (ar (su (su (su S 34 0 3) 34 1 3) 34 2 3) 35 2)) b (mw_37 cy a (su (su (su S 34 0 3) 34 1 3) 34 2 3)) (by decide) rfl dX12_plainest_254 ?_
  refine z_eqi h_a_35_2 ?_
  refine y_zast (q0 := 4) (j := 6) b (mw_4 cy a (su (su (su S 34 0 3) 34 1 3) 34 2 3)) (by decide) (by decide) dX12_plainest_255 ((mwa_4 cy a (su (su (su S 34 0 3) 34 1 3) 34 2 3) 6 0).trans (congrArg (mw cy a) (su_same h_a_3_6))) ?_
  refine z_aload_n b dX12_plainest_256 rfl rfl ?_
  refine z_get (q0 := 0) (k9 := 4) (v := .ref (a 5)) b (mw_0 cy a (su (su (su S 34 0 3) 34 1 3) 34 2 3)) rfl in_X12 (by decide) wf_X12_27 rfl dX12_plainest_257 ?_
  refine z_iload b dX12_plainest_260 rfl ?_
  refine z_aload_n b dX12_plainest_262 rfl rfl ?_
  refine z_get (q0 := 0) (k9 := 63) (v := .ref (a 38)) b (mw_0 cy a (su (su (su S 34 0 3) 34 1 3) 34 2 3)) rfl in_X12 (by decide) wf_X12_131 rfl dX12_plainest_263 ?_
  refine z_iconst (v := 3) b dX12_plainest_266 (by decide) ?_
  refine z_iload b dX12_plainest_267 rfl ?_
  refine z_imul (v := 0) b dX12_plainest_269 (by decide) ?_
  refine z_iload b dX12_plainest_270 rfl ?_
  refine z_iadd (v := 2) b dX12_plainest_272 (by decide) ?_
  refine y_zald (q0 := 38) (j := 2) (v := (ar (su (su (su S 34 0 3) 34 1 3) 34 2 3) 36 2)) b (mw_38 cy a (su (su (su S 34 0 3) 34 1 3) 34 2 3)) (by decide) rfl dX12_plainest_273 ?_
  refine z_eqi h_a_36_2 ?_
  refine y_zast (q0 := 5) (j := 6) b (mw_5 cy a (su (su (su S 34 0 3) 34 1 3) 34 2 3)) (by decide) (by decide) dX12_plainest_274 ((mwa_5 cy a (su (su (su S 34 0 3) 34 1 3) 34 2 3) 6 0).trans (congrArg (mw cy a) (su_same h_a_4_6))) ?_
  refine z_iinc (k9 := 1) (v := 3) (lv' := [(7, .int 3), (8, .int 6), (6, .int 0), (5, .int 33), (3, .long 1649317774848), (0, .ref (a 0)), (1, .long 1649317774848)]) b dX12_plainest_275 rfl (by decide) (by decide) rfl ?_
  refine z_goto (tgt := 185) b dX12_plainest_278 (by decide) ?_
  refine z_iload b dX12_plainest_185 rfl ?_
  refine z_iconst (v := 3) b dX12_plainest_187 (by decide) ?_
  refine z_icmp_ge_t (tgt := 281) b dX12_plainest_188 (by decide) (by decide) ?_
  refine z_iinc (k9 := 2) (v := 1) (lv' := [(6, .int 1), (7, .int 3), (8, .int 6), (5, .int 33), (3, .long 1649317774848), (0, .ref (a 0)), (1, .long 1649317774848)]) b dX12_plainest_281 rfl (by decide) (by decide) rfl ?_
  refine z_goto (tgt := 121) b dX12_plainest_284 (by decide) ?_
  refine z_iload b dX12_plainest_121 rfl ?_
  refine z_iconst (v := 3) b dX12_plainest_123 (by decide) ?_
  refine z_icmp_ge_f (tgt := 287) b dX12_plainest_124 (by decide) (by decide) ?_
  refine z_aload_n b dX12_plainest_127 rfl rfl ?_
  refine z_get (q0 := 0) (k9 := 0) (v := .ref (a 1)) b (mw_0 cy a (su (su (su S 34 0 3) 34 1 3) 34 2 3)) rfl in_X12 (by decide) wf_X12_13 rfl dX12_plainest_128 ?_
  refine z_aload_n b dX12_plainest_131 rfl rfl ?_
  refine z_iload b dX12_plainest_132 rfl ?_
  refine z_bipush (v := 6) b dX12_plainest_134 (by decide) ?_
  refine z_idiv (v := 5) b dX12_plainest_136 (by decide) (by decide) ?_
  refine z_iload b dX12_plainest_137 rfl ?_
  refine z_calli b (z_runV (q0 := 0) (As := [.int 5, .int 1]) (st := [.ref (a 1)]) b (c_X12_renamed_18 (su (su (su S 34 0 3) 34 1 3) 34 2 3) h_a_31_16) cf_X12_renamed (mw_0 cy a (su (su (su S 34 0 3) 34 1 3) 34 2 3)) rfl wm_X12_445 wi_X12_renamed ws_X12_renamed dX12_plainest_139 rfl (Nat.le_of_ble_eq_true rfl) ⟨by decide, by decide, by decide, by decide⟩) (fun r11463 u11464 h11462 => ?_)
  obtain ⟨rfl, rfl⟩ := h11462
  refine z_aload_n b dX12_plainest_142 rfl rfl ?_
  refine z_get (q0 := 0) (k9 := 59) (v := .ref (a 34)) b (mw_0 cy a (su (su (su S 34 0 3) 34 1 3) 34 2 3)) rfl in_X12 (by decide) wf_X12_119 rfl dX12_plainest_143 ?_
  refine z_iload b dX12_plainest_146 rfl ?_
  refine y_iald (q0 := 34) (j := 1) (v := (ar (su (su (su S 34 0 3) 34 1 3) 34 2 3) 32 1)) b (mw_34 cy a (su (su (su S 34 0 3) 34 1 3) 34 2 3)) (by decide) rfl dX12_plainest_148 ?_
  refine z_eqi h_a_32_1 ?_
  refine y_iast (q0 := 1) (j := 1) b (mw_1 cy a (su (su (su S 34 0 3) 34 1 3) 34 2 3)) (by decide) dX12_plainest_149 ((mwa_1 cy a (su (su (su S 34 0 3) 34 1 3) 34 2 3) 1 0).trans (congrArg (mw cy a) (su_same h_a_0_1))) ?_
  refine z_aload_n b dX12_plainest_150 rfl rfl ?_
  refine z_get (q0 := 0) (k9 := 2) (v := .ref (a 3)) b (mw_0 cy a (su (su (su S 34 0 3) 34 1 3) 34 2 3)) rfl in_X12 (by decide) wf_X12_20 rfl dX12_plainest_151 ?_
  refine z_aload_n b dX12_plainest_154 rfl rfl ?_
  refine z_iload b dX12_plainest_155 rfl ?_
  refine z_bipush (v := 6) b dX12_plainest_157 (by decide) ?_
  refine z_irem (v := 3) b dX12_plainest_159 (by decide) (by decide) ?_
  refine z_iload b dX12_plainest_160 rfl ?_
  refine z_calli b (z_runV (q0 := 0) (As := [.int 3, .int 1]) (st := [.ref (a 3)]) b (c_X12_renamed_12 (su (su (su S 34 0 3) 34 1 3) 34 2 3) h_a_31_10) cf_X12_renamed (mw_0 cy a (su (su (su S 34 0 3) 34 1 3) 34 2 3)) rfl wm_X12_445 wi_X12_renamed ws_X12_renamed dX12_plainest_162 rfl (Nat.le_of_ble_eq_true rfl) ⟨by decide, by decide, by decide, by decide⟩) (fun r11466 u11467 h11465 => ?_)
  obtain ⟨rfl, rfl⟩ := h11465
  refine z_aload_n b dX12_plainest_165 rfl rfl ?_
  refine z_iload b dX12_plainest_166 rfl ?_
  refine z_bipush (v := 6) b dX12_plainest_168 (by decide) ?_
  refine z_idiv (v := 5) b dX12_plainest_170 (by decide) (by decide) ?_
  refine z_aload_n b dX12_plainest_171 rfl rfl ?_
  refine z_get (q0 := 0) (k9 := 61) (v := .ref (a 36)) b (mw_0 cy a (su (su (su S 34 0 3) 34 1 3) 34 2 3)) rfl in_X12 (by decide) wf_X12_125 rfl dX12_plainest_172 ?_
  refine z_iload b dX12_plainest_175 rfl ?_
  refine y_iald (q0 := 36) (j := 1) (v := 3) b (mw_36 cy a (su (su (su S 34 0 3) 34 1 3) 34 2 3)) (by decide) rfl dX12_plainest_177 ?_
  exact k

set_option maxHeartbeats 4000000 in
set_option maxRecDepth 100000 in
theorem ch_X12_plainest_335 {p : Program} {l : Launch} {e : Env} {R : Room} {s : State} {m : MethodId} {args : Array Value} {below : List Frame} {meth : Method} {c : Code} {D : va_G} {cy : Nat → ClassId} {T0 tB tE : Nat} {A : Nat → Prop} {Q : State → Prop} {a : Nat → Nat} (S : GS)  (h_a_1_4 : ar S 1 4 = 0) (h_a_1_5 : ar S 1 5 = 0) (h_a_2_2 : ar S 2 2 = 3) (h_a_31_15 : ar S 31 15 = 2) (h_a_31_16 : ar S 31 16 = 1) (h_a_31_17 : ar S 31 17 = 0) (h_a_33_3 : ar S 33 3 = 0) (h_a_33_4 : ar S 33 4 = 0) (h_a_35_3 : ar S 35 3 = 0) (h_a_35_4 : ar S 35 4 = 0) (h_a_36_3 : ar S 36 3 = 0) (h_a_36_4 : ar S 36 4 = 0) (h_a_3_4 : ar S 3 4 = 0) (h_a_3_5 : ar S 3 5 = 0) (h_a_4_4 : ar S 4 4 = 0) (h_a_4_5 : ar S 4 5 = 0) (b : Bz p R s m args meth c D cy T0 tB tE A 9 cX12_plainest RX12 (some .long) "plainest" 2 47 0 0) (k : Z p l e R s m args below meth c D A 9 Q 0 0 (mw cy a (su (su (su S 34 0 3) 34 1 3) 34 2 3)) [(8, .int 3), (7, .int 2), (6, .int 1), (5, .int 33), (3, .long 1649317774848), (0, .ref (a 0)), (1, .long 1649317774848)] 219 [.ref (a 0)]) : Z p l e R s m args below meth c D A 9 Q 0 0 (mw cy a (su (su (su S 34 0 3) 34 1 3) 34 2 3)) [(6, .int 1), (7, .int 3), (8, .int 6), (5, .int 33), (3, .long 1649317774848), (0, .ref (a 0)), (1, .long 1649317774848)] 178 [.int 3, .int 5, .ref (a 0), .int 2, .ref (a 3)] := by
  refine z_calli b (z_runV (q0 := 0) (As := [.int 5, .int 3]) (st := [.int 2, .ref (a 3)]) b (c_X12_renamed_24 (su (su (su S 34 0 3) 34 1 3) 34 2 3) ) cf_X12_renamed (mw_0 cy a (su (su (su S 34 0 3) 34 1 3) 34 2 3)) rfl wm_X12_445 wi_X12_renamed ws_X12_renamed dX12_plainest_178 rfl (Nat.le_of_ble_eq_true rfl) ⟨by decide, by decide, by decide, by decide⟩) (fun r11469 u11470 h11468 => ?_)
  obtain ⟨rfl, rfl⟩ := h11468
  refine y_iast (q0 := 3) (j := 2) b (mw_3 cy a (su (su (su S 34 0 3) 34 1 3) 34 2 3)) (by decide) dX12_plainest_181 ((mwa_3 cy a (su (su (su S 34 0 3) 34 1 3) 34 2 3) 2 3).trans (congrArg (mw cy a) (su_same h_a_2_2))) ?_
  refine z_iconst (v := 0) b dX12_plainest_182 (by decide) ?_
  refine z_istore (lv' := [(7, .int 0), (6, .int 1), (8, .int 6), (5, .int 33), (3, .long 1649317774848), (0, .ref (a 0)), (1, .long 1649317774848)]) b dX12_plainest_183 (by decide) rfl ?_
  refine z_iload b dX12_plainest_185 rfl ?_
  refine z_iconst (v := 3) b dX12_plainest_187 (by decide) ?_
  refine z_icmp_ge_f (tgt := 281) b dX12_plainest_188 (by decide) (by decide) ?_
  refine z_iconst (v := 3) b dX12_plainest_191 (by decide) ?_
  refine z_aload_n b dX12_plainest_192 rfl rfl ?_
  refine z_iload b dX12_plainest_193 rfl ?_
  refine z_bipush (v := 6) b dX12_plainest_195 (by decide) ?_
  refine z_idiv (v := 5) b dX12_plainest_197 (by decide) (by decide) ?_
  refine z_iload b dX12_plainest_198 rfl ?_
  refine z_calli b (z_runV (q0 := 0) (As := [.int 5, .int 1]) (st := [.int 3]) b (c_X12_renamed_18 (su (su (su S 34 0 3) 34 1 3) 34 2 3) h_a_31_16) cf_X12_renamed (mw_0 cy a (su (su (su S 34 0 3) 34 1 3) 34 2 3)) rfl wm_X12_445 wi_X12_renamed ws_X12_renamed dX12_plainest_200 rfl (Nat.le_of_ble_eq_true rfl) ⟨by decide, by decide, by decide, by decide⟩) (fun r11472 u11473 h11471 => ?_)
  obtain ⟨rfl, rfl⟩ := h11471
  refine z_imul (v := 3) b dX12_plainest_203 (by decide) ?_
  refine z_aload_n b dX12_plainest_204 rfl rfl ?_
  refine z_iload b dX12_plainest_205 rfl ?_
  refine z_bipush (v := 6) b dX12_plainest_207 (by decide) ?_
  refine z_idiv (v := 5) b dX12_plainest_209 (by decide) (by decide) ?_
  refine z_iload b dX12_plainest_210 rfl ?_
  refine z_calli b (z_runV (q0 := 0) (As := [.int 5, .int 0]) (st := [.int 3]) b (c_X12_renamed_17 (su (su (su S 34 0 3) 34 1 3) 34 2 3) h_a_31_15) cf_X12_renamed (mw_0 cy a (su (su (su S 34 0 3) 34 1 3) 34 2 3)) rfl wm_X12_445 wi_X12_renamed ws_X12_renamed dX12_plainest_212 rfl (Nat.le_of_ble_eq_true rfl) ⟨by decide, by decide, by decide, by decide⟩) (fun r11475 u11476 h11474 => ?_)
  obtain ⟨rfl, rfl⟩ := h11474
  refine z_iadd (v := 5) b dX12_plainest_215 (by decide) ?_
  refine z_istore (lv' := [(8, .int 5), (7, .int 0), (6, .int 1), (5, .int 33), (3, .long 1649317774848), (0, .ref (a 0)), (1, .long 1649317774848)]) b dX12_plainest_216 (by decide) rfl ?_
  refine z_aload_n b dX12_plainest_218 rfl rfl ?_
  refine z_get (q0 := 0) (k9 := 1) (v := .ref (a 2)) b (mw_0 cy a (su (su (su S 34 0 3) 34 1 3) 34 2 3)) rfl in_X12 (by decide) wf_X12_17 rfl dX12_plainest_219 ?_
  refine z_iload b dX12_plainest_222 rfl ?_
  refine z_aload_n b dX12_plainest_224 rfl rfl ?_
  refine z_get (q0 := 0) (k9 := 60) (v := .ref (a 35)) b (mw_0 cy a (su (su (su S 34 0 3) 34 1 3) 34 2 3)) rfl in_X12 (by decide) wf_X12_122 rfl dX12_plainest_225 ?_
  refine z_iconst (v := 3) b dX12_plainest_228 (by decide) ?_
  refine z_iload b dX12_plainest_229 rfl ?_
  refine z_imul (v := 3) b dX12_plainest_231 (by decide) ?_
  refine z_iload b dX12_plainest_232 rfl ?_
  refine z_iadd (v := 3) b dX12_plainest_234 (by decide) ?_
  refine y_iald (q0 := 35) (j := 3) (v := (ar (su (su (su S 34 0 3) 34 1 3) 34 2 3) 33 3)) b (mw_35 cy a (su (su (su S 34 0 3) 34 1 3) 34 2 3)) (by decide) rfl dX12_plainest_235 ?_
  refine z_eqi h_a_33_3 ?_
  refine y_iast (q0 := 2) (j := 5) b (mw_2 cy a (su (su (su S 34 0 3) 34 1 3) 34 2 3)) (by decide) dX12_plainest_236 ((mwa_2 cy a (su (su (su S 34 0 3) 34 1 3) 34 2 3) 5 0).trans (congrArg (mw cy a) (su_same h_a_1_5))) ?_
  refine z_aload_n b dX12_plainest_237 rfl rfl ?_
  refine z_get (q0 := 0) (k9 := 3) (v := .ref (a 4)) b (mw_0 cy a (su (su (su S 34 0 3) 34 1 3) 34 2 3)) rfl in_X12 (by decide) wf_X12_23 rfl dX12_plainest_238 ?_
  refine z_iload b dX12_plainest_241 rfl ?_
  refine z_aload_n b dX12_plainest_243 rfl rfl ?_
  refine z_get (q0 := 0) (k9 := 62) (v := .ref (a 37)) b (mw_0 cy a (su (su (su S 34 0 3) 34 1 3) 34 2 3)) rfl in_X12 (by decide) wf_X12_128 rfl dX12_plainest_244 ?_
  refine z_iconst (v := 3) b dX12_plainest_247 (by decide) ?_
  refine z_iload b dX12_plainest_248 rfl ?_
  refine z_imul (v := 3) b dX12_plainest_250 (by decide) ?_
  refine z_iload b dX12_plainest_251 rfl ?_
  refine z_iadd (v := 3) b dX12_plainest_253 (by decide) ?_
  refine y_zald (q0 := 37) (j := 3) (v := (ar (su (su (su S 34 0 3) 34 1 3) 34 2 3) 35 3)) b (mw_37 cy a (su (su (su S 34 0 3) 34 1 3) 34 2 3)) (by decide) rfl dX12_plainest_254 ?_
  refine z_eqi h_a_35_3 ?_
  refine y_zast (q0 := 4) (j := 5) b (mw_4 cy a (su (su (su S 34 0 3) 34 1 3) 34 2 3)) (by decide) (by decide) dX12_plainest_255 ((mwa_4 cy a (su (su (su S 34 0 3) 34 1 3) 34 2 3) 5 0).trans (congrArg (mw cy a) (su_same h_a_3_5))) ?_
  refine z_aload_n b dX12_plainest_256 rfl rfl ?_
  refine z_get (q0 := 0) (k9 := 4) (v := .ref (a 5)) b (mw_0 cy a (su (su (su S 34 0 3) 34 1 3) 34 2 3)) rfl in_X12 (by decide) wf_X12_27 rfl dX12_plainest_257 ?_
  refine z_iload b dX12_plainest_260 rfl ?_
  refine z_aload_n b dX12_plainest_262 rfl rfl ?_
  refine z_get (q0 := 0) (k9 := 63) (v := .ref (a 38)) b (mw_0 cy a (su (su (su S 34 0 3) 34 1 3) 34 2 3)) rfl in_X12 (by decide) wf_X12_131 rfl dX12_plainest_263 ?_
  refine z_iconst (v := 3) b dX12_plainest_266 (by decide) ?_
  refine z_iload b dX12_plainest_267 rfl ?_
  refine z_imul (v := 3) b dX12_plainest_269 (by decide) ?_
  refine z_iload b dX12_plainest_270 rfl ?_
  refine z_iadd (v := 3) b dX12_plainest_272 (by decide) ?_
  refine y_zald (q0 := 38) (j := 3) (v := (ar (su (su (su S 34 0 3) 34 1 3) 34 2 3) 36 3)) b (mw_38 cy a (su (su (su S 34 0 3) 34 1 3) 34 2 3)) (by decide) rfl dX12_plainest_273 ?_
  refine z_eqi h_a_36_3 ?_
  refine y_zast (q0 := 5) (j := 5) b (mw_5 cy a (su (su (su S 34 0 3) 34 1 3) 34 2 3)) (by decide) (by decide) dX12_plainest_274 ((mwa_5 cy a (su (su (su S 34 0 3) 34 1 3) 34 2 3) 5 0).trans (congrArg (mw cy a) (su_same h_a_4_5))) ?_
  refine z_iinc (k9 := 1) (v := 1) (lv' := [(7, .int 1), (8, .int 5), (6, .int 1), (5, .int 33), (3, .long 1649317774848), (0, .ref (a 0)), (1, .long 1649317774848)]) b dX12_plainest_275 rfl (by decide) (by decide) rfl ?_
  refine z_goto (tgt := 185) b dX12_plainest_278 (by decide) ?_
  refine z_iload b dX12_plainest_185 rfl ?_
  refine z_iconst (v := 3) b dX12_plainest_187 (by decide) ?_
  refine z_icmp_ge_f (tgt := 281) b dX12_plainest_188 (by decide) (by decide) ?_
  refine z_iconst (v := 3) b dX12_plainest_191 (by decide) ?_
  refine z_aload_n b dX12_plainest_192 rfl rfl ?_
  refine z_iload b dX12_plainest_193 rfl ?_
  refine z_bipush (v := 6) b dX12_plainest_195 (by decide) ?_
  refine z_idiv (v := 5) b dX12_plainest_197 (by decide) (by decide) ?_
  refine z_iload b dX12_plainest_198 rfl ?_
  refine z_calli b (z_runV (q0 := 0) (As := [.int 5, .int 1]) (st := [.int 3]) b (c_X12_renamed_18 (su (su (su S 34 0 3) 34 1 3) 34 2 3) h_a_31_16) cf_X12_renamed (mw_0 cy a (su (su (su S 34 0 3) 34 1 3) 34 2 3)) rfl wm_X12_445 wi_X12_renamed ws_X12_renamed dX12_plainest_200 rfl (Nat.le_of_ble_eq_true rfl) ⟨by decide, by decide, by decide, by decide⟩) (fun r11478 u11479 h11477 => ?_)
  obtain ⟨rfl, rfl⟩ := h11477
  refine z_imul (v := 3) b dX12_plainest_203 (by decide) ?_
  refine z_aload_n b dX12_plainest_204 rfl rfl ?_
  refine z_iload b dX12_plainest_205 rfl ?_
  refine z_bipush (v := 6) b dX12_plainest_207 (by decide) ?_
  refine z_idiv (v := 5) b dX12_plainest_209 (by decide) (by decide) ?_
  refine z_iload b dX12_plainest_210 rfl ?_
  refine z_calli b (z_runV (q0 := 0) (As := [.int 5, .int 1]) (st := [.int 3]) b (c_X12_renamed_18 (su (su (su S 34 0 3) 34 1 3) 34 2 3) h_a_31_16) cf_X12_renamed (mw_0 cy a (su (su (su S 34 0 3) 34 1 3) 34 2 3)) rfl wm_X12_445 wi_X12_renamed ws_X12_renamed dX12_plainest_212 rfl (Nat.le_of_ble_eq_true rfl) ⟨by decide, by decide, by decide, by decide⟩) (fun r11481 u11482 h11480 => ?_)
  obtain ⟨rfl, rfl⟩ := h11480
  refine z_iadd (v := 4) b dX12_plainest_215 (by decide) ?_
  refine z_istore (lv' := [(8, .int 4), (7, .int 1), (6, .int 1), (5, .int 33), (3, .long 1649317774848), (0, .ref (a 0)), (1, .long 1649317774848)]) b dX12_plainest_216 (by decide) rfl ?_
  refine z_aload_n b dX12_plainest_218 rfl rfl ?_
  refine z_get (q0 := 0) (k9 := 1) (v := .ref (a 2)) b (mw_0 cy a (su (su (su S 34 0 3) 34 1 3) 34 2 3)) rfl in_X12 (by decide) wf_X12_17 rfl dX12_plainest_219 ?_
  refine z_iload b dX12_plainest_222 rfl ?_
  refine z_aload_n b dX12_plainest_224 rfl rfl ?_
  refine z_get (q0 := 0) (k9 := 60) (v := .ref (a 35)) b (mw_0 cy a (su (su (su S 34 0 3) 34 1 3) 34 2 3)) rfl in_X12 (by decide) wf_X12_122 rfl dX12_plainest_225 ?_
  refine z_iconst (v := 3) b dX12_plainest_228 (by decide) ?_
  refine z_iload b dX12_plainest_229 rfl ?_
  refine z_imul (v := 3) b dX12_plainest_231 (by decide) ?_
  refine z_iload b dX12_plainest_232 rfl ?_
  refine z_iadd (v := 4) b dX12_plainest_234 (by decide) ?_
  refine y_iald (q0 := 35) (j := 4) (v := (ar (su (su (su S 34 0 3) 34 1 3) 34 2 3) 33 4)) b (mw_35 cy a (su (su (su S 34 0 3) 34 1 3) 34 2 3)) (by decide) rfl dX12_plainest_235 ?_
  refine z_eqi h_a_33_4 ?_
  refine y_iast (q0 := 2) (j := 4) b (mw_2 cy a (su (su (su S 34 0 3) 34 1 3) 34 2 3)) (by decide) dX12_plainest_236 ((mwa_2 cy a (su (su (su S 34 0 3) 34 1 3) 34 2 3) 4 0).trans (congrArg (mw cy a) (su_same h_a_1_4))) ?_
  refine z_aload_n b dX12_plainest_237 rfl rfl ?_
  refine z_get (q0 := 0) (k9 := 3) (v := .ref (a 4)) b (mw_0 cy a (su (su (su S 34 0 3) 34 1 3) 34 2 3)) rfl in_X12 (by decide) wf_X12_23 rfl dX12_plainest_238 ?_
  refine z_iload b dX12_plainest_241 rfl ?_
  refine z_aload_n b dX12_plainest_243 rfl rfl ?_
  refine z_get (q0 := 0) (k9 := 62) (v := .ref (a 37)) b (mw_0 cy a (su (su (su S 34 0 3) 34 1 3) 34 2 3)) rfl in_X12 (by decide) wf_X12_128 rfl dX12_plainest_244 ?_
  refine z_iconst (v := 3) b dX12_plainest_247 (by decide) ?_
  refine z_iload b dX12_plainest_248 rfl ?_
  refine z_imul (v := 3) b dX12_plainest_250 (by decide) ?_
  refine z_iload b dX12_plainest_251 rfl ?_
  refine z_iadd (v := 4) b dX12_plainest_253 (by decide) ?_
  refine y_zald (q0 := 37) (j := 4) (v := (ar (su (su (su S 34 0 3) 34 1 3) 34 2 3) 35 4)) b (mw_37 cy a (su (su (su S 34 0 3) 34 1 3) 34 2 3)) (by decide) rfl dX12_plainest_254 ?_
  refine z_eqi h_a_35_4 ?_
  refine y_zast (q0 := 4) (j := 4) b (mw_4 cy a (su (su (su S 34 0 3) 34 1 3) 34 2 3)) (by decide) (by decide) dX12_plainest_255 ((mwa_4 cy a (su (su (su S 34 0 3) 34 1 3) 34 2 3) 4 0).trans (congrArg (mw cy a) (su_same h_a_3_4))) ?_
  refine z_aload_n b dX12_plainest_256 rfl rfl ?_
  refine z_get (q0 := 0) (k9 := 4) (v := .ref (a 5)) b (mw_0 cy a (su (su (su S 34 0 3) 34 1 3) 34 2 3)) rfl in_X12 (by decide) wf_X12_27 rfl dX12_plainest_257 ?_
  refine z_iload b dX12_plainest_260 rfl ?_
  refine z_aload_n b dX12_plainest_262 rfl rfl ?_
  refine z_get (q0 := 0) (k9 := 63) (v := .ref (a 38)) b (mw_0 cy a (su (su (su S 34 0 3) 34 1 3) 34 2 3)) rfl in_X12 (by decide) wf_X12_131 rfl dX12_plainest_263 ?_
  refine z_iconst (v := 3) b dX12_plainest_266 (by decide) ?_
  refine z_iload b dX12_plainest_267 rfl ?_
  refine z_imul (v := 3) b dX12_plainest_269 (by decide) ?_
  refine z_iload b dX12_plainest_270 rfl ?_
  refine z_iadd (v := 4) b dX12_plainest_272 (by decide) ?_
  refine y_zald (q0 := 38) (j := 4) (v := (ar (su (su (su S 34 0 3) 34 1 3) 34 2 3) 36 4)) b (mw_38 cy a (su (su (su S 34 0 3) 34 1 3) 34 2 3)) (by decide) rfl dX12_plainest_273 ?_
  refine z_eqi h_a_36_4 ?_
  refine y_zast (q0 := 5) (j := 4) b (mw_5 cy a (su (su (su S 34 0 3) 34 1 3) 34 2 3)) (by decide) (by decide) dX12_plainest_274 ((mwa_5 cy a (su (su (su S 34 0 3) 34 1 3) 34 2 3) 4 0).trans (congrArg (mw cy a) (su_same h_a_4_4))) ?_
  refine z_iinc (k9 := 1) (v := 2) (lv' := [(7, .int 2), (8, .int 4), (6, .int 1), (5, .int 33), (3, .long 1649317774848), (0, .ref (a 0)), (1, .long 1649317774848)]) b dX12_plainest_275 rfl (by decide) (by decide) rfl ?_
  refine z_goto (tgt := 185) b dX12_plainest_278 (by decide) ?_
  refine z_iload b dX12_plainest_185 rfl ?_
  refine z_iconst (v := 3) b dX12_plainest_187 (by decide) ?_
  refine z_icmp_ge_f (tgt := 281) b dX12_plainest_188 (by decide) (by decide) ?_
  refine z_iconst (v := 3) b dX12_plainest_191 (by decide) ?_
  refine z_aload_n b dX12_plainest_192 rfl rfl ?_
  refine z_iload b dX12_plainest_193 rfl ?_
  refine z_bipush (v := 6) b dX12_plainest_195 (by decide) ?_
  refine z_idiv (v := 5) b dX12_plainest_197 (by decide) (by decide) ?_
  refine z_iload b dX12_plainest_198 rfl ?_
  refine z_calli b (z_runV (q0 := 0) (As := [.int 5, .int 1]) (st := [.int 3]) b (c_X12_renamed_18 (su (su (su S 34 0 3) 34 1 3) 34 2 3) h_a_31_16) cf_X12_renamed (mw_0 cy a (su (su (su S 34 0 3) 34 1 3) 34 2 3)) rfl wm_X12_445 wi_X12_renamed ws_X12_renamed dX12_plainest_200 rfl (Nat.le_of_ble_eq_true rfl) ⟨by decide, by decide, by decide, by decide⟩) (fun r11484 u11485 h11483 => ?_)
  obtain ⟨rfl, rfl⟩ := h11483
  refine z_imul (v := 3) b dX12_plainest_203 (by decide) ?_
  refine z_aload_n b dX12_plainest_204 rfl rfl ?_
  refine z_iload b dX12_plainest_205 rfl ?_
  refine z_bipush (v := 6) b dX12_plainest_207 (by decide) ?_
  refine z_idiv (v := 5) b dX12_plainest_209 (by decide) (by decide) ?_
  refine z_iload b dX12_plainest_210 rfl ?_
  refine z_calli b (z_runV (q0 := 0) (As := [.int 5, .int 2]) (st := [.int 3]) b (c_X12_renamed_19 (su (su (su S 34 0 3) 34 1 3) 34 2 3) h_a_31_17) cf_X12_renamed (mw_0 cy a (su (su (su S 34 0 3) 34 1 3) 34 2 3)) rfl wm_X12_445 wi_X12_renamed ws_X12_renamed dX12_plainest_212 rfl (Nat.le_of_ble_eq_true rfl) ⟨by decide, by decide, by decide, by decide⟩) (fun r11487 u11488 h11486 => ?_)
  obtain ⟨rfl, rfl⟩ := h11486
  refine z_iadd (v := 3) b dX12_plainest_215 (by decide) ?_
  refine z_istore (lv' := [(8, .int 3), (7, .int 2), (6, .int 1), (5, .int 33), (3, .long 1649317774848), (0, .ref (a 0)), (1, .long 1649317774848)]) b dX12_plainest_216 (by decide) rfl ?_
  refine z_aload_n b dX12_plainest_218 rfl rfl ?_
  exact k

set_option maxHeartbeats 4000000 in
set_option maxRecDepth 100000 in
theorem ch_X12_plainest_336 {p : Program} {l : Launch} {e : Env} {R : Room} {s : State} {m : MethodId} {args : Array Value} {below : List Frame} {meth : Method} {c : Code} {D : va_G} {cy : Nat → ClassId} {T0 tB tE : Nat} {A : Nat → Prop} {Q : State → Prop} {a : Nat → Nat} (S : GS)  (h_a_0_0 : ar S 0 0 = 0) (h_a_1_2 : ar S 1 2 = 0) (h_a_1_3 : ar S 1 3 = 0) (h_a_2_0 : ar S 2 0 = 3) (h_a_31_11 : ar S 31 11 = 0) (h_a_31_15 : ar S 31 15 = 2) (h_a_31_17 : ar S 31 17 = 0) (h_a_32_2 : ar S 32 2 = 0) (h_a_33_5 : ar S 33 5 = 0) (h_a_33_6 : ar S 33 6 = 0) (h_a_35_5 : ar S 35 5 = 0) (h_a_35_6 : ar S 35 6 = 0) (h_a_36_5 : ar S 36 5 = 0) (h_a_36_6 : ar S 36 6 = 0) (h_a_3_2 : ar S 3 2 = 0) (h_a_3_3 : ar S 3 3 = 0) (h_a_4_2 : ar S 4 2 = 0) (h_a_4_3 : ar S 4 3 = 0) (b : Bz p R s m args meth c D cy T0 tB tE A 9 cX12_plainest RX12 (some .long) "plainest" 2 47 0 0) (k : Z p l e R s m args below meth c D A 9 Q 0 0 (mw cy a (su (su (su S 34 0 3) 34 1 3) 34 2 3)) [(7, .int 1), (8, .int 2), (6, .int 2), (5, .int 33), (3, .long 1649317774848), (0, .ref (a 0)), (1, .long 1649317774848)] 192 [.int 3]) : Z p l e R s m args below meth c D A 9 Q 0 0 (mw cy a (su (su (su S 34 0 3) 34 1 3) 34 2 3)) [(8, .int 3), (7, .int 2), (6, .int 1), (5, .int 33), (3, .long 1649317774848), (0, .ref (a 0)), (1, .long 1649317774848)] 219 [.ref (a 0)] := by
  refine z_get (q0 := 0) (k9 := 1) (v := .ref (a 2)) b (mw_0 cy a (su (su (su S 34 0 3) 34 1 3) 34 2 3)) rfl in_X12 (by decide) wf_X12_17 rfl dX12_plainest_219 ?_
  refine z_iload b dX12_plainest_222 rfl ?_
  refine z_aload_n b dX12_plainest_224 rfl rfl ?_
  refine z_get (q0 := 0) (k9 := 60) (v := .ref (a 35)) b (mw_0 cy a (su (su (su S 34 0 3) 34 1 3) 34 2 3)) rfl in_X12 (by decide) wf_X12_122 rfl dX12_plainest_225 ?_
  refine z_iconst (v := 3) b dX12_plainest_228 (by decide) ?_
  refine z_iload b dX12_plainest_229 rfl ?_
  refine z_imul (v := 3) b dX12_plainest_231 (by decide) ?_
  refine z_iload b dX12_plainest_232 rfl ?_
  refine z_iadd (v := 5) b dX12_plainest_234 (by decide) ?_
  refine y_iald (q0 := 35) (j := 5) (v := (ar (su (su (su S 34 0 3) 34 1 3) 34 2 3) 33 5)) b (mw_35 cy a (su (su (su S 34 0 3) 34 1 3) 34 2 3)) (by decide) rfl dX12_plainest_235 ?_
  refine z_eqi h_a_33_5 ?_
  refine y_iast (q0 := 2) (j := 3) b (mw_2 cy a (su (su (su S 34 0 3) 34 1 3) 34 2 3)) (by decide) dX12_plainest_236 ((mwa_2 cy a (su (su (su S 34 0 3) 34 1 3) 34 2 3) 3 0).trans (congrArg (mw cy a) (su_same h_a_1_3))) ?_
  refine z_aload_n b dX12_plainest_237 rfl rfl ?_
  refine z_get (q0 := 0) (k9 := 3) (v := .ref (a 4)) b (mw_0 cy a (su (su (su S 34 0 3) 34 1 3) 34 2 3)) rfl in_X12 (by decide) wf_X12_23 rfl dX12_plainest_238 ?_
  refine z_iload b dX12_plainest_241 rfl ?_
  refine z_aload_n b dX12_plainest_243 rfl rfl ?_
  refine z_get (q0 := 0) (k9 := 62) (v := .ref (a 37)) b (mw_0 cy a (su (su (su S 34 0 3) 34 1 3) 34 2 3)) rfl in_X12 (by decide) wf_X12_128 rfl dX12_plainest_244 ?_
  refine z_iconst (v := 3) b dX12_plainest_247 (by decide) ?_
  refine z_iload b dX12_plainest_248 rfl ?_
  refine z_imul (v := 3) b dX12_plainest_250 (by decide) ?_
  refine z_iload b dX12_plainest_251 rfl ?_
  refine z_iadd (v := 5) b dX12_plainest_253 (by decide) ?_
  refine y_zald (q0 := 37) (j := 5) (v := (ar (su (su (su S 34 0 3) 34 1 3) 34 2 3) 35 5)) b (mw_37 cy a (su (su (su S 34 0 3) 34 1 3) 34 2 3)) (by decide) rfl dX12_plainest_254 ?_
  refine z_eqi h_a_35_5 ?_
  refine y_zast (q0 := 4) (j := 3) b (mw_4 cy a (su (su (su S 34 0 3) 34 1 3) 34 2 3)) (by decide) (by decide) dX12_plainest_255 ((mwa_4 cy a (su (su (su S 34 0 3) 34 1 3) 34 2 3) 3 0).trans (congrArg (mw cy a) (su_same h_a_3_3))) ?_
  refine z_aload_n b dX12_plainest_256 rfl rfl ?_
  refine z_get (q0 := 0) (k9 := 4) (v := .ref (a 5)) b (mw_0 cy a (su (su (su S 34 0 3) 34 1 3) 34 2 3)) rfl in_X12 (by decide) wf_X12_27 rfl dX12_plainest_257 ?_
  refine z_iload b dX12_plainest_260 rfl ?_
  refine z_aload_n b dX12_plainest_262 rfl rfl ?_
  refine z_get (q0 := 0) (k9 := 63) (v := .ref (a 38)) b (mw_0 cy a (su (su (su S 34 0 3) 34 1 3) 34 2 3)) rfl in_X12 (by decide) wf_X12_131 rfl dX12_plainest_263 ?_
  refine z_iconst (v := 3) b dX12_plainest_266 (by decide) ?_
  refine z_iload b dX12_plainest_267 rfl ?_
  refine z_imul (v := 3) b dX12_plainest_269 (by decide) ?_
  refine z_iload b dX12_plainest_270 rfl ?_
  refine z_iadd (v := 5) b dX12_plainest_272 (by decide) ?_
  refine y_zald (q0 := 38) (j := 5) (v := (ar (su (su (su S 34 0 3) 34 1 3) 34 2 3) 36 5)) b (mw_38 cy a (su (su (su S 34 0 3) 34 1 3) 34 2 3)) (by decide) rfl dX12_plainest_273 ?_
  refine z_eqi h_a_36_5 ?_
  refine y_zast (q0 := 5) (j := 3) b (mw_5 cy a (su (su (su S 34 0 3) 34 1 3) 34 2 3)) (by decide) (by decide) dX12_plainest_274 ((mwa_5 cy a (su (su (su S 34 0 3) 34 1 3) 34 2 3) 3 0).trans (congrArg (mw cy a) (su_same h_a_4_3))) ?_
  refine z_iinc (k9 := 1) (v := 3) (lv' := [(7, .int 3), (8, .int 3), (6, .int 1), (5, .int 33), (3, .long 1649317774848), (0, .ref (a 0)), (1, .long 1649317774848)]) b dX12_plainest_275 rfl (by decide) (by decide) rfl ?_
  refine z_goto (tgt := 185) b dX12_plainest_278 (by decide) ?_
  refine z_iload b dX12_plainest_185 rfl ?_
  refine z_iconst (v := 3) b dX12_plainest_187 (by decide) ?_
  refine z_icmp_ge_t (tgt := 281) b dX12_plainest_188 (by decide) (by decide) ?_
  refine z_iinc (k9 := 2) (v := 2) (lv' := [(6, .int 2), (7, .int 3), (8, .int 3), (5, .int 33), (3, .long 1649317774848), (0, .ref (a 0)), (1, .long 1649317774848)]) b dX12_plainest_281 rfl (by decide) (by decide) rfl ?_
  refine z_goto (tgt := 121) b dX12_plainest_284 (by decide) ?_
  refine z_iload b dX12_plainest_121 rfl ?_
  refine z_iconst (v := 3) b dX12_plainest_123 (by decide) ?_
  refine z_icmp_ge_f (tgt := 287) b dX12_plainest_124 (by decide) (by decide) ?_
  refine z_aload_n b dX12_plainest_127 rfl rfl ?_
  refine z_get (q0 := 0) (k9 := 0) (v := .ref (a 1)) b (mw_0 cy a (su (su (su S 34 0 3) 34 1 3) 34 2 3)) rfl in_X12 (by decide) wf_X12_13 rfl dX12_plainest_128 ?_
  refine z_aload_n b dX12_plainest_131 rfl rfl ?_
  refine z_iload b dX12_plainest_132 rfl ?_
  refine z_bipush (v := 6) b dX12_plainest_134 (by decide) ?_
  refine z_idiv (v := 5) b dX12_plainest_136 (by decide) (by decide) ?_
  refine z_iload b dX12_plainest_137 rfl ?_
  refine z_calli b (z_runV (q0 := 0) (As := [.int 5, .int 2]) (st := [.ref (a 1)]) b (c_X12_renamed_19 (su (su (su S 34 0 3) 34 1 3) 34 2 3) h_a_31_17) cf_X12_renamed (mw_0 cy a (su (su (su S 34 0 3) 34 1 3) 34 2 3)) rfl wm_X12_445 wi_X12_renamed ws_X12_renamed dX12_plainest_139 rfl (Nat.le_of_ble_eq_true rfl) ⟨by decide, by decide, by decide, by decide⟩) (fun r11490 u11491 h11489 => ?_)
  obtain ⟨rfl, rfl⟩ := h11489
  refine z_aload_n b dX12_plainest_142 rfl rfl ?_
  refine z_get (q0 := 0) (k9 := 59) (v := .ref (a 34)) b (mw_0 cy a (su (su (su S 34 0 3) 34 1 3) 34 2 3)) rfl in_X12 (by decide) wf_X12_119 rfl dX12_plainest_143 ?_
  refine z_iload b dX12_plainest_146 rfl ?_
  refine y_iald (q0 := 34) (j := 2) (v := (ar (su (su (su S 34 0 3) 34 1 3) 34 2 3) 32 2)) b (mw_34 cy a (su (su (su S 34 0 3) 34 1 3) 34 2 3)) (by decide) rfl dX12_plainest_148 ?_
  refine z_eqi h_a_32_2 ?_
  refine y_iast (q0 := 1) (j := 0) b (mw_1 cy a (su (su (su S 34 0 3) 34 1 3) 34 2 3)) (by decide) dX12_plainest_149 ((mwa_1 cy a (su (su (su S 34 0 3) 34 1 3) 34 2 3) 0 0).trans (congrArg (mw cy a) (su_same h_a_0_0))) ?_
  refine z_aload_n b dX12_plainest_150 rfl rfl ?_
  refine z_get (q0 := 0) (k9 := 2) (v := .ref (a 3)) b (mw_0 cy a (su (su (su S 34 0 3) 34 1 3) 34 2 3)) rfl in_X12 (by decide) wf_X12_20 rfl dX12_plainest_151 ?_
  refine z_aload_n b dX12_plainest_154 rfl rfl ?_
  refine z_iload b dX12_plainest_155 rfl ?_
  refine z_bipush (v := 6) b dX12_plainest_157 (by decide) ?_
  refine z_irem (v := 3) b dX12_plainest_159 (by decide) (by decide) ?_
  refine z_iload b dX12_plainest_160 rfl ?_
  refine z_calli b (z_runV (q0 := 0) (As := [.int 3, .int 2]) (st := [.ref (a 3)]) b (c_X12_renamed_13 (su (su (su S 34 0 3) 34 1 3) 34 2 3) h_a_31_11) cf_X12_renamed (mw_0 cy a (su (su (su S 34 0 3) 34 1 3) 34 2 3)) rfl wm_X12_445 wi_X12_renamed ws_X12_renamed dX12_plainest_162 rfl (Nat.le_of_ble_eq_true rfl) ⟨by decide, by decide, by decide, by decide⟩) (fun r11493 u11494 h11492 => ?_)
  obtain ⟨rfl, rfl⟩ := h11492
  refine z_aload_n b dX12_plainest_165 rfl rfl ?_
  refine z_iload b dX12_plainest_166 rfl ?_
  refine z_bipush (v := 6) b dX12_plainest_168 (by decide) ?_
  refine z_idiv (v := 5) b dX12_plainest_170 (by decide) (by decide) ?_
  refine z_aload_n b dX12_plainest_171 rfl rfl ?_
  refine z_get (q0 := 0) (k9 := 61) (v := .ref (a 36)) b (mw_0 cy a (su (su (su S 34 0 3) 34 1 3) 34 2 3)) rfl in_X12 (by decide) wf_X12_125 rfl dX12_plainest_172 ?_
  refine z_iload b dX12_plainest_175 rfl ?_
  refine y_iald (q0 := 36) (j := 2) (v := 3) b (mw_36 cy a (su (su (su S 34 0 3) 34 1 3) 34 2 3)) (by decide) rfl dX12_plainest_177 ?_
  refine z_calli b (z_runV (q0 := 0) (As := [.int 5, .int 3]) (st := [.int 0, .ref (a 3)]) b (c_X12_renamed_24 (su (su (su S 34 0 3) 34 1 3) 34 2 3) ) cf_X12_renamed (mw_0 cy a (su (su (su S 34 0 3) 34 1 3) 34 2 3)) rfl wm_X12_445 wi_X12_renamed ws_X12_renamed dX12_plainest_178 rfl (Nat.le_of_ble_eq_true rfl) ⟨by decide, by decide, by decide, by decide⟩) (fun r11496 u11497 h11495 => ?_)
  obtain ⟨rfl, rfl⟩ := h11495
  refine y_iast (q0 := 3) (j := 0) b (mw_3 cy a (su (su (su S 34 0 3) 34 1 3) 34 2 3)) (by decide) dX12_plainest_181 ((mwa_3 cy a (su (su (su S 34 0 3) 34 1 3) 34 2 3) 0 3).trans (congrArg (mw cy a) (su_same h_a_2_0))) ?_
  refine z_iconst (v := 0) b dX12_plainest_182 (by decide) ?_
  refine z_istore (lv' := [(7, .int 0), (6, .int 2), (8, .int 3), (5, .int 33), (3, .long 1649317774848), (0, .ref (a 0)), (1, .long 1649317774848)]) b dX12_plainest_183 (by decide) rfl ?_
  refine z_iload b dX12_plainest_185 rfl ?_
  refine z_iconst (v := 3) b dX12_plainest_187 (by decide) ?_
  refine z_icmp_ge_f (tgt := 281) b dX12_plainest_188 (by decide) (by decide) ?_
  refine z_iconst (v := 3) b dX12_plainest_191 (by decide) ?_
  refine z_aload_n b dX12_plainest_192 rfl rfl ?_
  refine z_iload b dX12_plainest_193 rfl ?_
  refine z_bipush (v := 6) b dX12_plainest_195 (by decide) ?_
  refine z_idiv (v := 5) b dX12_plainest_197 (by decide) (by decide) ?_
  refine z_iload b dX12_plainest_198 rfl ?_
  refine z_calli b (z_runV (q0 := 0) (As := [.int 5, .int 2]) (st := [.int 3]) b (c_X12_renamed_19 (su (su (su S 34 0 3) 34 1 3) 34 2 3) h_a_31_17) cf_X12_renamed (mw_0 cy a (su (su (su S 34 0 3) 34 1 3) 34 2 3)) rfl wm_X12_445 wi_X12_renamed ws_X12_renamed dX12_plainest_200 rfl (Nat.le_of_ble_eq_true rfl) ⟨by decide, by decide, by decide, by decide⟩) (fun r11499 u11500 h11498 => ?_)
  obtain ⟨rfl, rfl⟩ := h11498
  refine z_imul (v := 0) b dX12_plainest_203 (by decide) ?_
  refine z_aload_n b dX12_plainest_204 rfl rfl ?_
  refine z_iload b dX12_plainest_205 rfl ?_
  refine z_bipush (v := 6) b dX12_plainest_207 (by decide) ?_
  refine z_idiv (v := 5) b dX12_plainest_209 (by decide) (by decide) ?_
  refine z_iload b dX12_plainest_210 rfl ?_
  refine z_calli b (z_runV (q0 := 0) (As := [.int 5, .int 0]) (st := [.int 0]) b (c_X12_renamed_17 (su (su (su S 34 0 3) 34 1 3) 34 2 3) h_a_31_15) cf_X12_renamed (mw_0 cy a (su (su (su S 34 0 3) 34 1 3) 34 2 3)) rfl wm_X12_445 wi_X12_renamed ws_X12_renamed dX12_plainest_212 rfl (Nat.le_of_ble_eq_true rfl) ⟨by decide, by decide, by decide, by decide⟩) (fun r11502 u11503 h11501 => ?_)
  obtain ⟨rfl, rfl⟩ := h11501
  refine z_iadd (v := 2) b dX12_plainest_215 (by decide) ?_
  refine z_istore (lv' := [(8, .int 2), (7, .int 0), (6, .int 2), (5, .int 33), (3, .long 1649317774848), (0, .ref (a 0)), (1, .long 1649317774848)]) b dX12_plainest_216 (by decide) rfl ?_
  refine z_aload_n b dX12_plainest_218 rfl rfl ?_
  refine z_get (q0 := 0) (k9 := 1) (v := .ref (a 2)) b (mw_0 cy a (su (su (su S 34 0 3) 34 1 3) 34 2 3)) rfl in_X12 (by decide) wf_X12_17 rfl dX12_plainest_219 ?_
  refine z_iload b dX12_plainest_222 rfl ?_
  refine z_aload_n b dX12_plainest_224 rfl rfl ?_
  refine z_get (q0 := 0) (k9 := 60) (v := .ref (a 35)) b (mw_0 cy a (su (su (su S 34 0 3) 34 1 3) 34 2 3)) rfl in_X12 (by decide) wf_X12_122 rfl dX12_plainest_225 ?_
  refine z_iconst (v := 3) b dX12_plainest_228 (by decide) ?_
  refine z_iload b dX12_plainest_229 rfl ?_
  refine z_imul (v := 6) b dX12_plainest_231 (by decide) ?_
  refine z_iload b dX12_plainest_232 rfl ?_
  refine z_iadd (v := 6) b dX12_plainest_234 (by decide) ?_
  refine y_iald (q0 := 35) (j := 6) (v := (ar (su (su (su S 34 0 3) 34 1 3) 34 2 3) 33 6)) b (mw_35 cy a (su (su (su S 34 0 3) 34 1 3) 34 2 3)) (by decide) rfl dX12_plainest_235 ?_
  refine z_eqi h_a_33_6 ?_
  refine y_iast (q0 := 2) (j := 2) b (mw_2 cy a (su (su (su S 34 0 3) 34 1 3) 34 2 3)) (by decide) dX12_plainest_236 ((mwa_2 cy a (su (su (su S 34 0 3) 34 1 3) 34 2 3) 2 0).trans (congrArg (mw cy a) (su_same h_a_1_2))) ?_
  refine z_aload_n b dX12_plainest_237 rfl rfl ?_
  refine z_get (q0 := 0) (k9 := 3) (v := .ref (a 4)) b (mw_0 cy a (su (su (su S 34 0 3) 34 1 3) 34 2 3)) rfl in_X12 (by decide) wf_X12_23 rfl dX12_plainest_238 ?_
  refine z_iload b dX12_plainest_241 rfl ?_
  refine z_aload_n b dX12_plainest_243 rfl rfl ?_
  refine z_get (q0 := 0) (k9 := 62) (v := .ref (a 37)) b (mw_0 cy a (su (su (su S 34 0 3) 34 1 3) 34 2 3)) rfl in_X12 (by decide) wf_X12_128 rfl dX12_plainest_244 ?_
  refine z_iconst (v := 3) b dX12_plainest_247 (by decide) ?_
  refine z_iload b dX12_plainest_248 rfl ?_
  refine z_imul (v := 6) b dX12_plainest_250 (by decide) ?_
  refine z_iload b dX12_plainest_251 rfl ?_
  refine z_iadd (v := 6) b dX12_plainest_253 (by decide) ?_
  refine y_zald (q0 := 37) (j := 6) (v := (ar (su (su (su S 34 0 3) 34 1 3) 34 2 3) 35 6)) b (mw_37 cy a (su (su (su S 34 0 3) 34 1 3) 34 2 3)) (by decide) rfl dX12_plainest_254 ?_
  refine z_eqi h_a_35_6 ?_
  refine y_zast (q0 := 4) (j := 2) b (mw_4 cy a (su (su (su S 34 0 3) 34 1 3) 34 2 3)) (by decide) (by decide) dX12_plainest_255 ((mwa_4 cy a (su (su (su S 34 0 3) 34 1 3) 34 2 3) 2 0).trans (congrArg (mw cy a) (su_same h_a_3_2))) ?_
  refine z_aload_n b dX12_plainest_256 rfl rfl ?_
  refine z_get (q0 := 0) (k9 := 4) (v := .ref (a 5)) b (mw_0 cy a (su (su (su S 34 0 3) 34 1 3) 34 2 3)) rfl in_X12 (by decide) wf_X12_27 rfl dX12_plainest_257 ?_
  refine z_iload b dX12_plainest_260 rfl ?_
  refine z_aload_n b dX12_plainest_262 rfl rfl ?_
  refine z_get (q0 := 0) (k9 := 63) (v := .ref (a 38)) b (mw_0 cy a (su (su (su S 34 0 3) 34 1 3) 34 2 3)) rfl in_X12 (by decide) wf_X12_131 rfl dX12_plainest_263 ?_
  refine z_iconst (v := 3) b dX12_plainest_266 (by decide) ?_
  refine z_iload b dX12_plainest_267 rfl ?_
  refine z_imul (v := 6) b dX12_plainest_269 (by decide) ?_
  refine z_iload b dX12_plainest_270 rfl ?_
  refine z_iadd (v := 6) b dX12_plainest_272 (by decide) ?_
  refine y_zald (q0 := 38) (j := 6) (v := (ar (su (su (su S 34 0 3) 34 1 3) 34 2 3) 36 6)) b (mw_38 cy a (su (su (su S 34 0 3) 34 1 3) 34 2 3)) (by decide) rfl dX12_plainest_273 ?_
  refine z_eqi h_a_36_6 ?_
  refine y_zast (q0 := 5) (j := 2) b (mw_5 cy a (su (su (su S 34 0 3) 34 1 3) 34 2 3)) (by decide) (by decide) dX12_plainest_274 ((mwa_5 cy a (su (su (su S 34 0 3) 34 1 3) 34 2 3) 2 0).trans (congrArg (mw cy a) (su_same h_a_4_2))) ?_
  refine z_iinc (k9 := 1) (v := 1) (lv' := [(7, .int 1), (8, .int 2), (6, .int 2), (5, .int 33), (3, .long 1649317774848), (0, .ref (a 0)), (1, .long 1649317774848)]) b dX12_plainest_275 rfl (by decide) (by decide) rfl ?_
  refine z_goto (tgt := 185) b dX12_plainest_278 (by decide) ?_
  refine z_iload b dX12_plainest_185 rfl ?_
  refine z_iconst (v := 3) b dX12_plainest_187 (by decide) ?_
  refine z_icmp_ge_f (tgt := 281) b dX12_plainest_188 (by decide) (by decide) ?_
  refine z_iconst (v := 3) b dX12_plainest_191 (by decide) ?_
  exact k

set_option maxHeartbeats 4000000 in
set_option maxRecDepth 100000 in
theorem ch_X12_plainest_337 {p : Program} {l : Launch} {e : Env} {R : Room} {s : State} {m : MethodId} {args : Array Value} {below : List Frame} {meth : Method} {c : Code} {D : va_G} {cy : Nat → ClassId} {T0 tB tE : Nat} {A : Nat → Prop} {Q : State → Prop} {a : Nat → Nat} (S : GS)  (h_a_0_0 : ar S 0 0 = 0) (h_a_0_1 : ar S 0 1 = 0) (h_a_0_2 : ar S 0 2 = 0) (h_a_1_0 : ar S 1 0 = 0) (h_a_1_1 : ar S 1 1 = 0) (h_a_1_2 : ar S 1 2 = 0) (h_a_1_3 : ar S 1 3 = 0) (h_a_1_5 : ar S 1 5 = 0) (h_a_1_6 : ar S 1 6 = 0) (h_a_1_7 : ar S 1 7 = 0) (h_a_2_0 : ar S 2 0 = 3) (h_a_2_1 : ar S 2 1 = 3) (h_a_2_2 : ar S 2 2 = 3) (h_a_31_16 : ar S 31 16 = 1) (h_a_31_17 : ar S 31 17 = 0) (h_a_33_7 : ar S 33 7 = 0) (h_a_33_8 : ar S 33 8 = 0) (h_a_35_7 : ar S 35 7 = 0) (h_a_35_8 : ar S 35 8 = 0) (h_a_36_7 : ar S 36 7 = 0) (h_a_36_8 : ar S 36 8 = 0) (h_a_3_0 : ar S 3 0 = 0) (h_a_3_1 : ar S 3 1 = 0) (h_a_3_5 : ar S 3 5 = 0) (h_a_3_6 : ar S 3 6 = 0) (h_a_4_0 : ar S 4 0 = 0) (h_a_4_1 : ar S 4 1 = 0) (h_a_4_2 : ar S 4 2 = 0) (h_a_4_3 : ar S 4 3 = 0) (h_a_4_5 : ar S 4 5 = 0) (h_a_4_6 : ar S 4 6 = 0) (h_a_4_7 : ar S 4 7 = 0) (h_i_0 : fi S 0 = 0) (b : Bz p R s m args meth c D cy T0 tB tE A 9 cX12_plainest RX12 (some .long) "plainest" 2 47 0 0) (k : Z p l e R s m args below meth c D A 9 Q 0 0 (mw cy a (su (su (su S 34 0 3) 34 1 3) 34 2 3)) [(6, .int 0), (5, .int 34), (3, .long 1649317774848), (8, .int 0), (0, .ref (a 0)), (1, .long 1649317774848)] 132 [.ref (a 0), .ref (a 1)]) : Z p l e R s m args below meth c D A 9 Q 0 0 (mw cy a (su (su (su S 34 0 3) 34 1 3) 34 2 3)) [(7, .int 1), (8, .int 2), (6, .int 2), (5, .int 33), (3, .long 1649317774848), (0, .ref (a 0)), (1, .long 1649317774848)] 192 [.int 3] := by
  refine z_aload_n b dX12_plainest_192 rfl rfl ?_
  refine z_iload b dX12_plainest_193 rfl ?_
  refine z_bipush (v := 6) b dX12_plainest_195 (by decide) ?_
  refine z_idiv (v := 5) b dX12_plainest_197 (by decide) (by decide) ?_
  refine z_iload b dX12_plainest_198 rfl ?_
  refine z_calli b (z_runV (q0 := 0) (As := [.int 5, .int 2]) (st := [.int 3]) b (c_X12_renamed_19 (su (su (su S 34 0 3) 34 1 3) 34 2 3) h_a_31_17) cf_X12_renamed (mw_0 cy a (su (su (su S 34 0 3) 34 1 3) 34 2 3)) rfl wm_X12_445 wi_X12_renamed ws_X12_renamed dX12_plainest_200 rfl (Nat.le_of_ble_eq_true rfl) ⟨by decide, by decide, by decide, by decide⟩) (fun r11505 u11506 h11504 => ?_)
  obtain ⟨rfl, rfl⟩ := h11504
  refine z_imul (v := 0) b dX12_plainest_203 (by decide) ?_
  refine z_aload_n b dX12_plainest_204 rfl rfl ?_
  refine z_iload b dX12_plainest_205 rfl ?_
  refine z_bipush (v := 6) b dX12_plainest_207 (by decide) ?_
  refine z_idiv (v := 5) b dX12_plainest_209 (by decide) (by decide) ?_
  refine z_iload b dX12_plainest_210 rfl ?_
  refine z_calli b (z_runV (q0 := 0) (As := [.int 5, .int 1]) (st := [.int 0]) b (c_X12_renamed_18 (su (su (su S 34 0 3) 34 1 3) 34 2 3) h_a_31_16) cf_X12_renamed (mw_0 cy a (su (su (su S 34 0 3) 34 1 3) 34 2 3)) rfl wm_X12_445 wi_X12_renamed ws_X12_renamed dX12_plainest_212 rfl (Nat.le_of_ble_eq_true rfl) ⟨by decide, by decide, by decide, by decide⟩) (fun r11508 u11509 h11507 => ?_)
  obtain ⟨rfl, rfl⟩ := h11507
  refine z_iadd (v := 1) b dX12_plainest_215 (by decide) ?_
  refine z_istore (lv' := [(8, .int 1), (7, .int 1), (6, .int 2), (5, .int 33), (3, .long 1649317774848), (0, .ref (a 0)), (1, .long 1649317774848)]) b dX12_plainest_216 (by decide) rfl ?_
  refine z_aload_n b dX12_plainest_218 rfl rfl ?_
  refine z_get (q0 := 0) (k9 := 1) (v := .ref (a 2)) b (mw_0 cy a (su (su (su S 34 0 3) 34 1 3) 34 2 3)) rfl in_X12 (by decide) wf_X12_17 rfl dX12_plainest_219 ?_
  refine z_iload b dX12_plainest_222 rfl ?_
  refine z_aload_n b dX12_plainest_224 rfl rfl ?_
  refine z_get (q0 := 0) (k9 := 60) (v := .ref (a 35)) b (mw_0 cy a (su (su (su S 34 0 3) 34 1 3) 34 2 3)) rfl in_X12 (by decide) wf_X12_122 rfl dX12_plainest_225 ?_
  refine z_iconst (v := 3) b dX12_plainest_228 (by decide) ?_
  refine z_iload b dX12_plainest_229 rfl ?_
  refine z_imul (v := 6) b dX12_plainest_231 (by decide) ?_
  refine z_iload b dX12_plainest_232 rfl ?_
  refine z_iadd (v := 7) b dX12_plainest_234 (by decide) ?_
  refine y_iald (q0 := 35) (j := 7) (v := (ar (su (su (su S 34 0 3) 34 1 3) 34 2 3) 33 7)) b (mw_35 cy a (su (su (su S 34 0 3) 34 1 3) 34 2 3)) (by decide) rfl dX12_plainest_235 ?_
  refine z_eqi h_a_33_7 ?_
  refine y_iast (q0 := 2) (j := 1) b (mw_2 cy a (su (su (su S 34 0 3) 34 1 3) 34 2 3)) (by decide) dX12_plainest_236 ((mwa_2 cy a (su (su (su S 34 0 3) 34 1 3) 34 2 3) 1 0).trans (congrArg (mw cy a) (su_same h_a_1_1))) ?_
  refine z_aload_n b dX12_plainest_237 rfl rfl ?_
  refine z_get (q0 := 0) (k9 := 3) (v := .ref (a 4)) b (mw_0 cy a (su (su (su S 34 0 3) 34 1 3) 34 2 3)) rfl in_X12 (by decide) wf_X12_23 rfl dX12_plainest_238 ?_
  refine z_iload b dX12_plainest_241 rfl ?_
  refine z_aload_n b dX12_plainest_243 rfl rfl ?_
  refine z_get (q0 := 0) (k9 := 62) (v := .ref (a 37)) b (mw_0 cy a (su (su (su S 34 0 3) 34 1 3) 34 2 3)) rfl in_X12 (by decide) wf_X12_128 rfl dX12_plainest_244 ?_
  refine z_iconst (v := 3) b dX12_plainest_247 (by decide) ?_
  refine z_iload b dX12_plainest_248 rfl ?_
  refine z_imul (v := 6) b dX12_plainest_250 (by decide) ?_
  refine z_iload b dX12_plainest_251 rfl ?_
  refine z_iadd (v := 7) b dX12_plainest_253 (by decide) ?_
  refine y_zald (q0 := 37) (j := 7) (v := (ar (su (su (su S 34 0 3) 34 1 3) 34 2 3) 35 7)) b (mw_37 cy a (su (su (su S 34 0 3) 34 1 3) 34 2 3)) (by decide) rfl dX12_plainest_254 ?_
  refine z_eqi h_a_35_7 ?_
  refine y_zast (q0 := 4) (j := 1) b (mw_4 cy a (su (su (su S 34 0 3) 34 1 3) 34 2 3)) (by decide) (by decide) dX12_plainest_255 ((mwa_4 cy a (su (su (su S 34 0 3) 34 1 3) 34 2 3) 1 0).trans (congrArg (mw cy a) (su_same h_a_3_1))) ?_
  refine z_aload_n b dX12_plainest_256 rfl rfl ?_
  refine z_get (q0 := 0) (k9 := 4) (v := .ref (a 5)) b (mw_0 cy a (su (su (su S 34 0 3) 34 1 3) 34 2 3)) rfl in_X12 (by decide) wf_X12_27 rfl dX12_plainest_257 ?_
  refine z_iload b dX12_plainest_260 rfl ?_
  refine z_aload_n b dX12_plainest_262 rfl rfl ?_
  refine z_get (q0 := 0) (k9 := 63) (v := .ref (a 38)) b (mw_0 cy a (su (su (su S 34 0 3) 34 1 3) 34 2 3)) rfl in_X12 (by decide) wf_X12_131 rfl dX12_plainest_263 ?_
  refine z_iconst (v := 3) b dX12_plainest_266 (by decide) ?_
  refine z_iload b dX12_plainest_267 rfl ?_
  refine z_imul (v := 6) b dX12_plainest_269 (by decide) ?_
  refine z_iload b dX12_plainest_270 rfl ?_
  refine z_iadd (v := 7) b dX12_plainest_272 (by decide) ?_
  refine y_zald (q0 := 38) (j := 7) (v := (ar (su (su (su S 34 0 3) 34 1 3) 34 2 3) 36 7)) b (mw_38 cy a (su (su (su S 34 0 3) 34 1 3) 34 2 3)) (by decide) rfl dX12_plainest_273 ?_
  refine z_eqi h_a_36_7 ?_
  refine y_zast (q0 := 5) (j := 1) b (mw_5 cy a (su (su (su S 34 0 3) 34 1 3) 34 2 3)) (by decide) (by decide) dX12_plainest_274 ((mwa_5 cy a (su (su (su S 34 0 3) 34 1 3) 34 2 3) 1 0).trans (congrArg (mw cy a) (su_same h_a_4_1))) ?_
  refine z_iinc (k9 := 1) (v := 2) (lv' := [(7, .int 2), (8, .int 1), (6, .int 2), (5, .int 33), (3, .long 1649317774848), (0, .ref (a 0)), (1, .long 1649317774848)]) b dX12_plainest_275 rfl (by decide) (by decide) rfl ?_
  refine z_goto (tgt := 185) b dX12_plainest_278 (by decide) ?_
  refine z_iload b dX12_plainest_185 rfl ?_
  refine z_iconst (v := 3) b dX12_plainest_187 (by decide) ?_
  refine z_icmp_ge_f (tgt := 281) b dX12_plainest_188 (by decide) (by decide) ?_
  refine z_iconst (v := 3) b dX12_plainest_191 (by decide) ?_
  refine z_aload_n b dX12_plainest_192 rfl rfl ?_
  refine z_iload b dX12_plainest_193 rfl ?_
  refine z_bipush (v := 6) b dX12_plainest_195 (by decide) ?_
  refine z_idiv (v := 5) b dX12_plainest_197 (by decide) (by decide) ?_
  refine z_iload b dX12_plainest_198 rfl ?_
  refine z_calli b (z_runV (q0 := 0) (As := [.int 5, .int 2]) (st := [.int 3]) b (c_X12_renamed_19 (su (su (su S 34 0 3) 34 1 3) 34 2 3) h_a_31_17) cf_X12_renamed (mw_0 cy a (su (su (su S 34 0 3) 34 1 3) 34 2 3)) rfl wm_X12_445 wi_X12_renamed ws_X12_renamed dX12_plainest_200 rfl (Nat.le_of_ble_eq_true rfl) ⟨by decide, by decide, by decide, by decide⟩) (fun r11511 u11512 h11510 => ?_)
  obtain ⟨rfl, rfl⟩ := h11510
  refine z_imul (v := 0) b dX12_plainest_203 (by decide) ?_
  refine z_aload_n b dX12_plainest_204 rfl rfl ?_
  refine z_iload b dX12_plainest_205 rfl ?_
  refine z_bipush (v := 6) b dX12_plainest_207 (by decide) ?_
  refine z_idiv (v := 5) b dX12_plainest_209 (by decide) (by decide) ?_
  refine z_iload b dX12_plainest_210 rfl ?_
  refine z_calli b (z_runV (q0 := 0) (As := [.int 5, .int 2]) (st := [.int 0]) b (c_X12_renamed_19 (su (su (su S 34 0 3) 34 1 3) 34 2 3) h_a_31_17) cf_X12_renamed (mw_0 cy a (su (su (su S 34 0 3) 34 1 3) 34 2 3)) rfl wm_X12_445 wi_X12_renamed ws_X12_renamed dX12_plainest_212 rfl (Nat.le_of_ble_eq_true rfl) ⟨by decide, by decide, by decide, by decide⟩) (fun r11514 u11515 h11513 => ?_)
  obtain ⟨rfl, rfl⟩ := h11513
  refine z_iadd (v := 0) b dX12_plainest_215 (by decide) ?_
  refine z_istore (lv' := [(8, .int 0), (7, .int 2), (6, .int 2), (5, .int 33), (3, .long 1649317774848), (0, .ref (a 0)), (1, .long 1649317774848)]) b dX12_plainest_216 (by decide) rfl ?_
  refine z_aload_n b dX12_plainest_218 rfl rfl ?_
  refine z_get (q0 := 0) (k9 := 1) (v := .ref (a 2)) b (mw_0 cy a (su (su (su S 34 0 3) 34 1 3) 34 2 3)) rfl in_X12 (by decide) wf_X12_17 rfl dX12_plainest_219 ?_
  refine z_iload b dX12_plainest_222 rfl ?_
  refine z_aload_n b dX12_plainest_224 rfl rfl ?_
  refine z_get (q0 := 0) (k9 := 60) (v := .ref (a 35)) b (mw_0 cy a (su (su (su S 34 0 3) 34 1 3) 34 2 3)) rfl in_X12 (by decide) wf_X12_122 rfl dX12_plainest_225 ?_
  refine z_iconst (v := 3) b dX12_plainest_228 (by decide) ?_
  refine z_iload b dX12_plainest_229 rfl ?_
  refine z_imul (v := 6) b dX12_plainest_231 (by decide) ?_
  refine z_iload b dX12_plainest_232 rfl ?_
  refine z_iadd (v := 8) b dX12_plainest_234 (by decide) ?_
  refine y_iald (q0 := 35) (j := 8) (v := (ar (su (su (su S 34 0 3) 34 1 3) 34 2 3) 33 8)) b (mw_35 cy a (su (su (su S 34 0 3) 34 1 3) 34 2 3)) (by decide) rfl dX12_plainest_235 ?_
  refine z_eqi h_a_33_8 ?_
  refine y_iast (q0 := 2) (j := 0) b (mw_2 cy a (su (su (su S 34 0 3) 34 1 3) 34 2 3)) (by decide) dX12_plainest_236 ((mwa_2 cy a (su (su (su S 34 0 3) 34 1 3) 34 2 3) 0 0).trans (congrArg (mw cy a) (su_same h_a_1_0))) ?_
  refine z_aload_n b dX12_plainest_237 rfl rfl ?_
  refine z_get (q0 := 0) (k9 := 3) (v := .ref (a 4)) b (mw_0 cy a (su (su (su S 34 0 3) 34 1 3) 34 2 3)) rfl in_X12 (by decide) wf_X12_23 rfl dX12_plainest_238 ?_
  refine z_iload b dX12_plainest_241 rfl ?_
  refine z_aload_n b dX12_plainest_243 rfl rfl ?_
  refine z_get (q0 := 0) (k9 := 62) (v := .ref (a 37)) b (mw_0 cy a (su (su (su S 34 0 3) 34 1 3) 34 2 3)) rfl in_X12 (by decide) wf_X12_128 rfl dX12_plainest_244 ?_
  refine z_iconst (v := 3) b dX12_plainest_247 (by decide) ?_
  refine z_iload b dX12_plainest_248 rfl ?_
  refine z_imul (v := 6) b dX12_plainest_250 (by decide) ?_
  refine z_iload b dX12_plainest_251 rfl ?_
  refine z_iadd (v := 8) b dX12_plainest_253 (by decide) ?_
  refine y_zald (q0 := 37) (j := 8) (v := (ar (su (su (su S 34 0 3) 34 1 3) 34 2 3) 35 8)) b (mw_37 cy a (su (su (su S 34 0 3) 34 1 3) 34 2 3)) (by decide) rfl dX12_plainest_254 ?_
  refine z_eqi h_a_35_8 ?_
  refine y_zast (q0 := 4) (j := 0) b (mw_4 cy a (su (su (su S 34 0 3) 34 1 3) 34 2 3)) (by decide) (by decide) dX12_plainest_255 ((mwa_4 cy a (su (su (su S 34 0 3) 34 1 3) 34 2 3) 0 0).trans (congrArg (mw cy a) (su_same h_a_3_0))) ?_
  refine z_aload_n b dX12_plainest_256 rfl rfl ?_
  refine z_get (q0 := 0) (k9 := 4) (v := .ref (a 5)) b (mw_0 cy a (su (su (su S 34 0 3) 34 1 3) 34 2 3)) rfl in_X12 (by decide) wf_X12_27 rfl dX12_plainest_257 ?_
  refine z_iload b dX12_plainest_260 rfl ?_
  refine z_aload_n b dX12_plainest_262 rfl rfl ?_
  refine z_get (q0 := 0) (k9 := 63) (v := .ref (a 38)) b (mw_0 cy a (su (su (su S 34 0 3) 34 1 3) 34 2 3)) rfl in_X12 (by decide) wf_X12_131 rfl dX12_plainest_263 ?_
  refine z_iconst (v := 3) b dX12_plainest_266 (by decide) ?_
  refine z_iload b dX12_plainest_267 rfl ?_
  refine z_imul (v := 6) b dX12_plainest_269 (by decide) ?_
  refine z_iload b dX12_plainest_270 rfl ?_
  refine z_iadd (v := 8) b dX12_plainest_272 (by decide) ?_
  refine y_zald (q0 := 38) (j := 8) (v := (ar (su (su (su S 34 0 3) 34 1 3) 34 2 3) 36 8)) b (mw_38 cy a (su (su (su S 34 0 3) 34 1 3) 34 2 3)) (by decide) rfl dX12_plainest_273 ?_
  refine z_eqi h_a_36_8 ?_
  refine y_zast (q0 := 5) (j := 0) b (mw_5 cy a (su (su (su S 34 0 3) 34 1 3) 34 2 3)) (by decide) (by decide) dX12_plainest_274 ((mwa_5 cy a (su (su (su S 34 0 3) 34 1 3) 34 2 3) 0 0).trans (congrArg (mw cy a) (su_same h_a_4_0))) ?_
  refine z_iinc (k9 := 1) (v := 3) (lv' := [(7, .int 3), (8, .int 0), (6, .int 2), (5, .int 33), (3, .long 1649317774848), (0, .ref (a 0)), (1, .long 1649317774848)]) b dX12_plainest_275 rfl (by decide) (by decide) rfl ?_
  refine z_goto (tgt := 185) b dX12_plainest_278 (by decide) ?_
  refine z_iload b dX12_plainest_185 rfl ?_
  refine z_iconst (v := 3) b dX12_plainest_187 (by decide) ?_
  refine z_icmp_ge_t (tgt := 281) b dX12_plainest_188 (by decide) (by decide) ?_
  refine z_iinc (k9 := 2) (v := 3) (lv' := [(6, .int 3), (7, .int 3), (8, .int 0), (5, .int 33), (3, .long 1649317774848), (0, .ref (a 0)), (1, .long 1649317774848)]) b dX12_plainest_281 rfl (by decide) (by decide) rfl ?_
  refine z_goto (tgt := 121) b dX12_plainest_284 (by decide) ?_
  refine z_iload b dX12_plainest_121 rfl ?_
  refine z_iconst (v := 3) b dX12_plainest_123 (by decide) ?_
  refine z_icmp_ge_t (tgt := 287) b dX12_plainest_124 (by decide) (by decide) ?_
  refine z_aload_n b dX12_plainest_287 rfl rfl ?_
  refine z_calll b (z_runV (q0 := 0) (As := []) (st := []) b (c_X12_packs_14 (su (su (su S 34 0 3) 34 1 3) 34 2 3) h_i_0 h_a_0_0 h_a_2_0 h_a_3_1 h_a_1_1 h_a_4_1 h_a_1_2 h_a_4_2 h_a_0_1 h_a_2_1 h_a_3_5 h_a_1_5 h_a_4_5 h_a_1_3 h_a_4_3 h_a_0_2 h_a_2_2 h_a_3_6 h_a_1_6 h_a_4_6 h_a_1_7 h_a_4_7) cf_X12_packs (mw_0 cy a (su (su (su S 34 0 3) 34 1 3) 34 2 3)) rfl wm_X12_149 wi_X12_packs ws_X12_packs dX12_plainest_288 rfl (Nat.le_of_ble_eq_true rfl) ⟨by decide, by decide, by decide, by decide⟩) (fun r11517 u11518 h11516 => ?_)
  obtain ⟨rfl, rfl⟩ := h11516
  refine z_lstore (lv' := [(6, .long 1649317774848), (8, .int 0), (5, .int 33), (3, .long 1649317774848), (0, .ref (a 0)), (1, .long 1649317774848)]) b dX12_plainest_291 (by decide) rfl ?_
  refine z_lload b dX12_plainest_293 rfl ?_
  refine z_lload_n b dX12_plainest_295 rfl rfl ?_
  refine z_lcmp (v := 0) b dX12_plainest_296 (by decide) ?_
  refine z_if_ge_t (tgt := 305) b dX12_plainest_297 (by decide) (by decide) ?_
  refine z_lload_n b dX12_plainest_305 rfl rfl ?_
  refine z_lstore_n (lv' := [(3, .long 1649317774848), (6, .long 1649317774848), (8, .int 0), (5, .int 33), (0, .ref (a 0)), (1, .long 1649317774848)]) b dX12_plainest_306 rfl (by decide) rfl ?_
  refine z_iinc (k9 := 3) (v := 34) (lv' := [(5, .int 34), (3, .long 1649317774848), (6, .long 1649317774848), (8, .int 0), (0, .ref (a 0)), (1, .long 1649317774848)]) b dX12_plainest_307 rfl (by decide) (by decide) rfl ?_
  refine z_goto (tgt := 111) b dX12_plainest_310 (by decide) ?_
  refine z_iload b dX12_plainest_111 rfl ?_
  refine z_bipush (v := 36) b dX12_plainest_113 (by decide) ?_
  refine z_icmp_ge_f (tgt := 313) b dX12_plainest_115 (by decide) (by decide) ?_
  refine z_iconst (v := 0) b dX12_plainest_118 (by decide) ?_
  refine z_istore (lv' := [(6, .int 0), (5, .int 34), (3, .long 1649317774848), (8, .int 0), (0, .ref (a 0)), (1, .long 1649317774848)]) b dX12_plainest_119 (by decide) rfl ?_
  refine z_iload b dX12_plainest_121 rfl ?_
  refine z_iconst (v := 3) b dX12_plainest_123 (by decide) ?_
  refine z_icmp_ge_f (tgt := 287) b dX12_plainest_124 (by decide) (by decide) ?_
  refine z_aload_n b dX12_plainest_127 rfl rfl ?_
  refine z_get (q0 := 0) (k9 := 0) (v := .ref (a 1)) b (mw_0 cy a (su (su (su S 34 0 3) 34 1 3) 34 2 3)) rfl in_X12 (by decide) wf_X12_13 rfl dX12_plainest_128 ?_
  refine z_aload_n b dX12_plainest_131 rfl rfl ?_
  exact k

set_option maxHeartbeats 4000000 in
set_option maxRecDepth 100000 in
theorem ch_X12_plainest_338 {p : Program} {l : Launch} {e : Env} {R : Room} {s : State} {m : MethodId} {args : Array Value} {below : List Frame} {meth : Method} {c : Code} {D : va_G} {cy : Nat → ClassId} {T0 tB tE : Nat} {A : Nat → Prop} {Q : State → Prop} {a : Nat → Nat} (S : GS)  (h_a_0_2 : ar S 0 2 = 0) (h_a_1_7 : ar S 1 7 = 0) (h_a_1_8 : ar S 1 8 = 0) (h_a_2_2 : ar S 2 2 = 3) (h_a_31_12 : ar S 31 12 = 2) (h_a_31_15 : ar S 31 15 = 2) (h_a_31_16 : ar S 31 16 = 1) (h_a_32_0 : ar S 32 0 = 0) (h_a_33_0 : ar S 33 0 = 0) (h_a_33_1 : ar S 33 1 = 0) (h_a_35_0 : ar S 35 0 = 0) (h_a_35_1 : ar S 35 1 = 0) (h_a_36_0 : ar S 36 0 = 0) (h_a_3_7 : ar S 3 7 = 0) (h_a_3_8 : ar S 3 8 = 0) (h_a_4_8 : ar S 4 8 = 0) (b : Bz p R s m args meth c D cy T0 tB tE A 9 cX12_plainest RX12 (some .long) "plainest" 2 47 0 0) (k : Z p l e R s m args below meth c D A 9 Q 0 0 (mw cy a (su (su (su S 34 0 3) 34 1 3) 34 2 3)) [(8, .int 7), (7, .int 1), (6, .int 0), (5, .int 34), (3, .long 1649317774848), (0, .ref (a 0)), (1, .long 1649317774848)] 270 [.int 0, .ref (a 38), .int 7, .ref (a 5)]) : Z p l e R s m args below meth c D A 9 Q 0 0 (mw cy a (su (su (su S 34 0 3) 34 1 3) 34 2 3)) [(6, .int 0), (5, .int 34), (3, .long 1649317774848), (8, .int 0), (0, .ref (a 0)), (1, .long 1649317774848)] 132 [.ref (a 0), .ref (a 1)] := by
  refine z_iload b dX12_plainest_132 rfl ?_
  refine z_bipush (v := 6) b dX12_plainest_134 (by decide) ?_
  refine z_idiv (v := 5) b dX12_plainest_136 (by decide) (by decide) ?_
  refine z_iload b dX12_plainest_137 rfl ?_
  refine z_calli b (z_runV (q0 := 0) (As := [.int 5, .int 0]) (st := [.ref (a 1)]) b (c_X12_renamed_17 (su (su (su S 34 0 3) 34 1 3) 34 2 3) h_a_31_15) cf_X12_renamed (mw_0 cy a (su (su (su S 34 0 3) 34 1 3) 34 2 3)) rfl wm_X12_445 wi_X12_renamed ws_X12_renamed dX12_plainest_139 rfl (Nat.le_of_ble_eq_true rfl) ⟨by decide, by decide, by decide, by decide⟩) (fun r11520 u11521 h11519 => ?_)
  obtain ⟨rfl, rfl⟩ := h11519
  refine z_aload_n b dX12_plainest_142 rfl rfl ?_
  refine z_get (q0 := 0) (k9 := 59) (v := .ref (a 34)) b (mw_0 cy a (su (su (su S 34 0 3) 34 1 3) 34 2 3)) rfl in_X12 (by decide) wf_X12_119 rfl dX12_plainest_143 ?_
  refine z_iload b dX12_plainest_146 rfl ?_
  refine y_iald (q0 := 34) (j := 0) (v := (ar (su (su (su S 34 0 3) 34 1 3) 34 2 3) 32 0)) b (mw_34 cy a (su (su (su S 34 0 3) 34 1 3) 34 2 3)) (by decide) rfl dX12_plainest_148 ?_
  refine z_eqi h_a_32_0 ?_
  refine y_iast (q0 := 1) (j := 2) b (mw_1 cy a (su (su (su S 34 0 3) 34 1 3) 34 2 3)) (by decide) dX12_plainest_149 ((mwa_1 cy a (su (su (su S 34 0 3) 34 1 3) 34 2 3) 2 0).trans (congrArg (mw cy a) (su_same h_a_0_2))) ?_
  refine z_aload_n b dX12_plainest_150 rfl rfl ?_
  refine z_get (q0 := 0) (k9 := 2) (v := .ref (a 3)) b (mw_0 cy a (su (su (su S 34 0 3) 34 1 3) 34 2 3)) rfl in_X12 (by decide) wf_X12_20 rfl dX12_plainest_151 ?_
  refine z_aload_n b dX12_plainest_154 rfl rfl ?_
  refine z_iload b dX12_plainest_155 rfl ?_
  refine z_bipush (v := 6) b dX12_plainest_157 (by decide) ?_
  refine z_irem (v := 4) b dX12_plainest_159 (by decide) (by decide) ?_
  refine z_iload b dX12_plainest_160 rfl ?_
  refine z_calli b (z_runV (q0 := 0) (As := [.int 4, .int 0]) (st := [.ref (a 3)]) b (c_X12_renamed_14 (su (su (su S 34 0 3) 34 1 3) 34 2 3) h_a_31_12) cf_X12_renamed (mw_0 cy a (su (su (su S 34 0 3) 34 1 3) 34 2 3)) rfl wm_X12_445 wi_X12_renamed ws_X12_renamed dX12_plainest_162 rfl (Nat.le_of_ble_eq_true rfl) ⟨by decide, by decide, by decide, by decide⟩) (fun r11523 u11524 h11522 => ?_)
  obtain ⟨rfl, rfl⟩ := h11522
  refine z_aload_n b dX12_plainest_165 rfl rfl ?_
  refine z_iload b dX12_plainest_166 rfl ?_
  refine z_bipush (v := 6) b dX12_plainest_168 (by decide) ?_
  refine z_idiv (v := 5) b dX12_plainest_170 (by decide) (by decide) ?_
  refine z_aload_n b dX12_plainest_171 rfl rfl ?_
  refine z_get (q0 := 0) (k9 := 61) (v := .ref (a 36)) b (mw_0 cy a (su (su (su S 34 0 3) 34 1 3) 34 2 3)) rfl in_X12 (by decide) wf_X12_125 rfl dX12_plainest_172 ?_
  refine z_iload b dX12_plainest_175 rfl ?_
  refine y_iald (q0 := 36) (j := 0) (v := 3) b (mw_36 cy a (su (su (su S 34 0 3) 34 1 3) 34 2 3)) (by decide) rfl dX12_plainest_177 ?_
  refine z_calli b (z_runV (q0 := 0) (As := [.int 5, .int 3]) (st := [.int 2, .ref (a 3)]) b (c_X12_renamed_24 (su (su (su S 34 0 3) 34 1 3) 34 2 3) ) cf_X12_renamed (mw_0 cy a (su (su (su S 34 0 3) 34 1 3) 34 2 3)) rfl wm_X12_445 wi_X12_renamed ws_X12_renamed dX12_plainest_178 rfl (Nat.le_of_ble_eq_true rfl) ⟨by decide, by decide, by decide, by decide⟩) (fun r11526 u11527 h11525 => ?_)
  obtain ⟨rfl, rfl⟩ := h11525
  refine y_iast (q0 := 3) (j := 2) b (mw_3 cy a (su (su (su S 34 0 3) 34 1 3) 34 2 3)) (by decide) dX12_plainest_181 ((mwa_3 cy a (su (su (su S 34 0 3) 34 1 3) 34 2 3) 2 3).trans (congrArg (mw cy a) (su_same h_a_2_2))) ?_
  refine z_iconst (v := 0) b dX12_plainest_182 (by decide) ?_
  refine z_istore (lv' := [(7, .int 0), (6, .int 0), (5, .int 34), (3, .long 1649317774848), (8, .int 0), (0, .ref (a 0)), (1, .long 1649317774848)]) b dX12_plainest_183 (by decide) rfl ?_
  refine z_iload b dX12_plainest_185 rfl ?_
  refine z_iconst (v := 3) b dX12_plainest_187 (by decide) ?_
  refine z_icmp_ge_f (tgt := 281) b dX12_plainest_188 (by decide) (by decide) ?_
  refine z_iconst (v := 3) b dX12_plainest_191 (by decide) ?_
  refine z_aload_n b dX12_plainest_192 rfl rfl ?_
  refine z_iload b dX12_plainest_193 rfl ?_
  refine z_bipush (v := 6) b dX12_plainest_195 (by decide) ?_
  refine z_idiv (v := 5) b dX12_plainest_197 (by decide) (by decide) ?_
  refine z_iload b dX12_plainest_198 rfl ?_
  refine z_calli b (z_runV (q0 := 0) (As := [.int 5, .int 0]) (st := [.int 3]) b (c_X12_renamed_17 (su (su (su S 34 0 3) 34 1 3) 34 2 3) h_a_31_15) cf_X12_renamed (mw_0 cy a (su (su (su S 34 0 3) 34 1 3) 34 2 3)) rfl wm_X12_445 wi_X12_renamed ws_X12_renamed dX12_plainest_200 rfl (Nat.le_of_ble_eq_true rfl) ⟨by decide, by decide, by decide, by decide⟩) (fun r11529 u11530 h11528 => ?_)
  obtain ⟨rfl, rfl⟩ := h11528
  refine z_imul (v := 6) b dX12_plainest_203 (by decide) ?_
  refine z_aload_n b dX12_plainest_204 rfl rfl ?_
  refine z_iload b dX12_plainest_205 rfl ?_
  refine z_bipush (v := 6) b dX12_plainest_207 (by decide) ?_
  refine z_idiv (v := 5) b dX12_plainest_209 (by decide) (by decide) ?_
  refine z_iload b dX12_plainest_210 rfl ?_
  refine z_calli b (z_runV (q0 := 0) (As := [.int 5, .int 0]) (st := [.int 6]) b (c_X12_renamed_17 (su (su (su S 34 0 3) 34 1 3) 34 2 3) h_a_31_15) cf_X12_renamed (mw_0 cy a (su (su (su S 34 0 3) 34 1 3) 34 2 3)) rfl wm_X12_445 wi_X12_renamed ws_X12_renamed dX12_plainest_212 rfl (Nat.le_of_ble_eq_true rfl) ⟨by decide, by decide, by decide, by decide⟩) (fun r11532 u11533 h11531 => ?_)
  obtain ⟨rfl, rfl⟩ := h11531
  refine z_iadd (v := 8) b dX12_plainest_215 (by decide) ?_
  refine z_istore (lv' := [(8, .int 8), (7, .int 0), (6, .int 0), (5, .int 34), (3, .long 1649317774848), (0, .ref (a 0)), (1, .long 1649317774848)]) b dX12_plainest_216 (by decide) rfl ?_
  refine z_aload_n b dX12_plainest_218 rfl rfl ?_
  refine z_get (q0 := 0) (k9 := 1) (v := .ref (a 2)) b (mw_0 cy a (su (su (su S 34 0 3) 34 1 3) 34 2 3)) rfl in_X12 (by decide) wf_X12_17 rfl dX12_plainest_219 ?_
  refine z_iload b dX12_plainest_222 rfl ?_
  refine z_aload_n b dX12_plainest_224 rfl rfl ?_
  refine z_get (q0 := 0) (k9 := 60) (v := .ref (a 35)) b (mw_0 cy a (su (su (su S 34 0 3) 34 1 3) 34 2 3)) rfl in_X12 (by decide) wf_X12_122 rfl dX12_plainest_225 ?_
  refine z_iconst (v := 3) b dX12_plainest_228 (by decide) ?_
  refine z_iload b dX12_plainest_229 rfl ?_
  refine z_imul (v := 0) b dX12_plainest_231 (by decide) ?_
  refine z_iload b dX12_plainest_232 rfl ?_
  refine z_iadd (v := 0) b dX12_plainest_234 (by decide) ?_
  refine y_iald (q0 := 35) (j := 0) (v := (ar (su (su (su S 34 0 3) 34 1 3) 34 2 3) 33 0)) b (mw_35 cy a (su (su (su S 34 0 3) 34 1 3) 34 2 3)) (by decide) rfl dX12_plainest_235 ?_
  refine z_eqi h_a_33_0 ?_
  refine y_iast (q0 := 2) (j := 8) b (mw_2 cy a (su (su (su S 34 0 3) 34 1 3) 34 2 3)) (by decide) dX12_plainest_236 ((mwa_2 cy a (su (su (su S 34 0 3) 34 1 3) 34 2 3) 8 0).trans (congrArg (mw cy a) (su_same h_a_1_8))) ?_
  refine z_aload_n b dX12_plainest_237 rfl rfl ?_
  refine z_get (q0 := 0) (k9 := 3) (v := .ref (a 4)) b (mw_0 cy a (su (su (su S 34 0 3) 34 1 3) 34 2 3)) rfl in_X12 (by decide) wf_X12_23 rfl dX12_plainest_238 ?_
  refine z_iload b dX12_plainest_241 rfl ?_
  refine z_aload_n b dX12_plainest_243 rfl rfl ?_
  refine z_get (q0 := 0) (k9 := 62) (v := .ref (a 37)) b (mw_0 cy a (su (su (su S 34 0 3) 34 1 3) 34 2 3)) rfl in_X12 (by decide) wf_X12_128 rfl dX12_plainest_244 ?_
  refine z_iconst (v := 3) b dX12_plainest_247 (by decide) ?_
  refine z_iload b dX12_plainest_248 rfl ?_
  refine z_imul (v := 0) b dX12_plainest_250 (by decide) ?_
  refine z_iload b dX12_plainest_251 rfl ?_
  refine z_iadd (v := 0) b dX12_plainest_253 (by decide) ?_
  refine y_zald (q0 := 37) (j := 0) (v := (ar (su (su (su S 34 0 3) 34 1 3) 34 2 3) 35 0)) b (mw_37 cy a (su (su (su S 34 0 3) 34 1 3) 34 2 3)) (by decide) rfl dX12_plainest_254 ?_
  refine z_eqi h_a_35_0 ?_
  refine y_zast (q0 := 4) (j := 8) b (mw_4 cy a (su (su (su S 34 0 3) 34 1 3) 34 2 3)) (by decide) (by decide) dX12_plainest_255 ((mwa_4 cy a (su (su (su S 34 0 3) 34 1 3) 34 2 3) 8 0).trans (congrArg (mw cy a) (su_same h_a_3_8))) ?_
  refine z_aload_n b dX12_plainest_256 rfl rfl ?_
  refine z_get (q0 := 0) (k9 := 4) (v := .ref (a 5)) b (mw_0 cy a (su (su (su S 34 0 3) 34 1 3) 34 2 3)) rfl in_X12 (by decide) wf_X12_27 rfl dX12_plainest_257 ?_
  refine z_iload b dX12_plainest_260 rfl ?_
  refine z_aload_n b dX12_plainest_262 rfl rfl ?_
  refine z_get (q0 := 0) (k9 := 63) (v := .ref (a 38)) b (mw_0 cy a (su (su (su S 34 0 3) 34 1 3) 34 2 3)) rfl in_X12 (by decide) wf_X12_131 rfl dX12_plainest_263 ?_
  refine z_iconst (v := 3) b dX12_plainest_266 (by decide) ?_
  refine z_iload b dX12_plainest_267 rfl ?_
  refine z_imul (v := 0) b dX12_plainest_269 (by decide) ?_
  refine z_iload b dX12_plainest_270 rfl ?_
  refine z_iadd (v := 0) b dX12_plainest_272 (by decide) ?_
  refine y_zald (q0 := 38) (j := 0) (v := (ar (su (su (su S 34 0 3) 34 1 3) 34 2 3) 36 0)) b (mw_38 cy a (su (su (su S 34 0 3) 34 1 3) 34 2 3)) (by decide) rfl dX12_plainest_273 ?_
  refine z_eqi h_a_36_0 ?_
  refine y_zast (q0 := 5) (j := 8) b (mw_5 cy a (su (su (su S 34 0 3) 34 1 3) 34 2 3)) (by decide) (by decide) dX12_plainest_274 ((mwa_5 cy a (su (su (su S 34 0 3) 34 1 3) 34 2 3) 8 0).trans (congrArg (mw cy a) (su_same h_a_4_8))) ?_
  refine z_iinc (k9 := 1) (v := 1) (lv' := [(7, .int 1), (8, .int 8), (6, .int 0), (5, .int 34), (3, .long 1649317774848), (0, .ref (a 0)), (1, .long 1649317774848)]) b dX12_plainest_275 rfl (by decide) (by decide) rfl ?_
  refine z_goto (tgt := 185) b dX12_plainest_278 (by decide) ?_
  refine z_iload b dX12_plainest_185 rfl ?_
  refine z_iconst (v := 3) b dX12_plainest_187 (by decide) ?_
  refine z_icmp_ge_f (tgt := 281) b dX12_plainest_188 (by decide) (by decide) ?_
  refine z_iconst (v := 3) b dX12_plainest_191 (by decide) ?_
  refine z_aload_n b dX12_plainest_192 rfl rfl ?_
  refine z_iload b dX12_plainest_193 rfl ?_
  refine z_bipush (v := 6) b dX12_plainest_195 (by decide) ?_
  refine z_idiv (v := 5) b dX12_plainest_197 (by decide) (by decide) ?_
  refine z_iload b dX12_plainest_198 rfl ?_
  refine z_calli b (z_runV (q0 := 0) (As := [.int 5, .int 0]) (st := [.int 3]) b (c_X12_renamed_17 (su (su (su S 34 0 3) 34 1 3) 34 2 3) h_a_31_15) cf_X12_renamed (mw_0 cy a (su (su (su S 34 0 3) 34 1 3) 34 2 3)) rfl wm_X12_445 wi_X12_renamed ws_X12_renamed dX12_plainest_200 rfl (Nat.le_of_ble_eq_true rfl) ⟨by decide, by decide, by decide, by decide⟩) (fun r11535 u11536 h11534 => ?_)
  obtain ⟨rfl, rfl⟩ := h11534
  refine z_imul (v := 6) b dX12_plainest_203 (by decide) ?_
  refine z_aload_n b dX12_plainest_204 rfl rfl ?_
  refine z_iload b dX12_plainest_205 rfl ?_
  refine z_bipush (v := 6) b dX12_plainest_207 (by decide) ?_
  refine z_idiv (v := 5) b dX12_plainest_209 (by decide) (by decide) ?_
  refine z_iload b dX12_plainest_210 rfl ?_
  refine z_calli b (z_runV (q0 := 0) (As := [.int 5, .int 1]) (st := [.int 6]) b (c_X12_renamed_18 (su (su (su S 34 0 3) 34 1 3) 34 2 3) h_a_31_16) cf_X12_renamed (mw_0 cy a (su (su (su S 34 0 3) 34 1 3) 34 2 3)) rfl wm_X12_445 wi_X12_renamed ws_X12_renamed dX12_plainest_212 rfl (Nat.le_of_ble_eq_true rfl) ⟨by decide, by decide, by decide, by decide⟩) (fun r11538 u11539 h11537 => ?_)
  obtain ⟨rfl, rfl⟩ := h11537
  refine z_iadd (v := 7) b dX12_plainest_215 (by decide) ?_
  refine z_istore (lv' := [(8, .int 7), (7, .int 1), (6, .int 0), (5, .int 34), (3, .long 1649317774848), (0, .ref (a 0)), (1, .long 1649317774848)]) b dX12_plainest_216 (by decide) rfl ?_
  refine z_aload_n b dX12_plainest_218 rfl rfl ?_
  refine z_get (q0 := 0) (k9 := 1) (v := .ref (a 2)) b (mw_0 cy a (su (su (su S 34 0 3) 34 1 3) 34 2 3)) rfl in_X12 (by decide) wf_X12_17 rfl dX12_plainest_219 ?_
  refine z_iload b dX12_plainest_222 rfl ?_
  refine z_aload_n b dX12_plainest_224 rfl rfl ?_
  refine z_get (q0 := 0) (k9 := 60) (v := .ref (a 35)) b (mw_0 cy a (su (su (su S 34 0 3) 34 1 3) 34 2 3)) rfl in_X12 (by decide) wf_X12_122 rfl dX12_plainest_225 ?_
  refine z_iconst (v := 3) b dX12_plainest_228 (by decide) ?_
  refine z_iload b dX12_plainest_229 rfl ?_
  refine z_imul (v := 0) b dX12_plainest_231 (by decide) ?_
  refine z_iload b dX12_plainest_232 rfl ?_
  refine z_iadd (v := 1) b dX12_plainest_234 (by decide) ?_
  refine y_iald (q0 := 35) (j := 1) (v := (ar (su (su (su S 34 0 3) 34 1 3) 34 2 3) 33 1)) b (mw_35 cy a (su (su (su S 34 0 3) 34 1 3) 34 2 3)) (by decide) rfl dX12_plainest_235 ?_
  refine z_eqi h_a_33_1 ?_
  refine y_iast (q0 := 2) (j := 7) b (mw_2 cy a (su (su (su S 34 0 3) 34 1 3) 34 2 3)) (by decide) dX12_plainest_236 ((mwa_2 cy a (su (su (su S 34 0 3) 34 1 3) 34 2 3) 7 0).trans (congrArg (mw cy a) (su_same h_a_1_7))) ?_
  refine z_aload_n b dX12_plainest_237 rfl rfl ?_
  refine z_get (q0 := 0) (k9 := 3) (v := .ref (a 4)) b (mw_0 cy a (su (su (su S 34 0 3) 34 1 3) 34 2 3)) rfl in_X12 (by decide) wf_X12_23 rfl dX12_plainest_238 ?_
  refine z_iload b dX12_plainest_241 rfl ?_
  refine z_aload_n b dX12_plainest_243 rfl rfl ?_
  refine z_get (q0 := 0) (k9 := 62) (v := .ref (a 37)) b (mw_0 cy a (su (su (su S 34 0 3) 34 1 3) 34 2 3)) rfl in_X12 (by decide) wf_X12_128 rfl dX12_plainest_244 ?_
  refine z_iconst (v := 3) b dX12_plainest_247 (by decide) ?_
  refine z_iload b dX12_plainest_248 rfl ?_
  refine z_imul (v := 0) b dX12_plainest_250 (by decide) ?_
  refine z_iload b dX12_plainest_251 rfl ?_
  refine z_iadd (v := 1) b dX12_plainest_253 (by decide) ?_
  refine y_zald (q0 := 37) (j := 1) (v := (ar (su (su (su S 34 0 3) 34 1 3) 34 2 3) 35 1)) b (mw_37 cy a (su (su (su S 34 0 3) 34 1 3) 34 2 3)) (by decide) rfl dX12_plainest_254 ?_
  refine z_eqi h_a_35_1 ?_
  refine y_zast (q0 := 4) (j := 7) b (mw_4 cy a (su (su (su S 34 0 3) 34 1 3) 34 2 3)) (by decide) (by decide) dX12_plainest_255 ((mwa_4 cy a (su (su (su S 34 0 3) 34 1 3) 34 2 3) 7 0).trans (congrArg (mw cy a) (su_same h_a_3_7))) ?_
  refine z_aload_n b dX12_plainest_256 rfl rfl ?_
  refine z_get (q0 := 0) (k9 := 4) (v := .ref (a 5)) b (mw_0 cy a (su (su (su S 34 0 3) 34 1 3) 34 2 3)) rfl in_X12 (by decide) wf_X12_27 rfl dX12_plainest_257 ?_
  refine z_iload b dX12_plainest_260 rfl ?_
  refine z_aload_n b dX12_plainest_262 rfl rfl ?_
  refine z_get (q0 := 0) (k9 := 63) (v := .ref (a 38)) b (mw_0 cy a (su (su (su S 34 0 3) 34 1 3) 34 2 3)) rfl in_X12 (by decide) wf_X12_131 rfl dX12_plainest_263 ?_
  refine z_iconst (v := 3) b dX12_plainest_266 (by decide) ?_
  refine z_iload b dX12_plainest_267 rfl ?_
  refine z_imul (v := 0) b dX12_plainest_269 (by decide) ?_
  exact k

set_option maxHeartbeats 4000000 in
set_option maxRecDepth 100000 in
theorem ch_X12_plainest_339 {p : Program} {l : Launch} {e : Env} {R : Room} {s : State} {m : MethodId} {args : Array Value} {below : List Frame} {meth : Method} {c : Code} {D : va_G} {cy : Nat → ClassId} {T0 tB tE : Nat} {A : Nat → Prop} {Q : State → Prop} {a : Nat → Nat} (S : GS)  (h_a_0_1 : ar S 0 1 = 0) (h_a_1_5 : ar S 1 5 = 0) (h_a_1_6 : ar S 1 6 = 0) (h_a_2_0 : ar S 2 0 = 3) (h_a_31_13 : ar S 31 13 = 0) (h_a_31_15 : ar S 31 15 = 2) (h_a_31_16 : ar S 31 16 = 1) (h_a_31_17 : ar S 31 17 = 0) (h_a_32_1 : ar S 32 1 = 0) (h_a_33_2 : ar S 33 2 = 0) (h_a_33_3 : ar S 33 3 = 0) (h_a_35_2 : ar S 35 2 = 0) (h_a_36_1 : ar S 36 1 = 0) (h_a_36_2 : ar S 36 2 = 0) (h_a_3_6 : ar S 3 6 = 0) (h_a_4_6 : ar S 4 6 = 0) (h_a_4_7 : ar S 4 7 = 0) (b : Bz p R s m args meth c D cy T0 tB tE A 9 cX12_plainest RX12 (some .long) "plainest" 2 47 0 0) (k : Z p l e R s m args below meth c D A 9 Q 0 0 (mw cy a (su (su (su S 34 0 3) 34 1 3) 34 2 3)) [(8, .int 5), (7, .int 0), (6, .int 1), (5, .int 34), (3, .long 1649317774848), (0, .ref (a 0)), (1, .long 1649317774848)] 243 [.int 5, .ref (a 4)]) : Z p l e R s m args below meth c D A 9 Q 0 0 (mw cy a (su (su (su S 34 0 3) 34 1 3) 34 2 3)) [(8, .int 7), (7, .int 1), (6, .int 0), (5, .int 34), (3, .long 1649317774848), (0, .ref (a 0)), (1, .long 1649317774848)] 270 [.int 0, .ref (a 38), .int 7, .ref (a 5)] := by
  refine z_iload b dX12_plainest_270 rfl ?_
  refine z_iadd (v := 1) b dX12_plainest_272 (by decide) ?_
  refine y_zald (q0 := 38) (j := 1) (v := (ar (su (su (su S 34 0 3) 34 1 3) 34 2 3) 36 1)) b (mw_38 cy a (su (su (su S 34 0 3) 34 1 3) 34 2 3)) (by decide) rfl dX12_plainest_273 ?_
  refine z_eqi h_a_36_1 ?_
  refine y_zast (q0 := 5) (j := 7) b (mw_5 cy a (su (su (su S 34 0 3) 34 1 3) 34 2 3)) (by decide) (by decide) dX12_plainest_274 ((mwa_5 cy a (su (su (su S 34 0 3) 34 1 3) 34 2 3) 7 0).trans (congrArg (mw cy a) (su_same h_a_4_7))) ?_
  refine z_iinc (k9 := 1) (v := 2) (lv' := [(7, .int 2), (8, .int 7), (6, .int 0), (5, .int 34), (3, .long 1649317774848), (0, .ref (a 0)), (1, .long 1649317774848)]) b dX12_plainest_275 rfl (by decide) (by decide) rfl ?_
  refine z_goto (tgt := 185) b dX12_plainest_278 (by decide) ?_
  refine z_iload b dX12_plainest_185 rfl ?_
  refine z_iconst (v := 3) b dX12_plainest_187 (by decide) ?_
  refine z_icmp_ge_f (tgt := 281) b dX12_plainest_188 (by decide) (by decide) ?_
  refine z_iconst (v := 3) b dX12_plainest_191 (by decide) ?_
  refine z_aload_n b dX12_plainest_192 rfl rfl ?_
  refine z_iload b dX12_plainest_193 rfl ?_
  refine z_bipush (v := 6) b dX12_plainest_195 (by decide) ?_
  refine z_idiv (v := 5) b dX12_plainest_197 (by decide) (by decide) ?_
  refine z_iload b dX12_plainest_198 rfl ?_
  refine z_calli b (z_runV (q0 := 0) (As := [.int 5, .int 0]) (st := [.int 3]) b (c_X12_renamed_17 (su (su (su S 34 0 3) 34 1 3) 34 2 3) h_a_31_15) cf_X12_renamed (mw_0 cy a (su (su (su S 34 0 3) 34 1 3) 34 2 3)) rfl wm_X12_445 wi_X12_renamed ws_X12_renamed dX12_plainest_200 rfl (Nat.le_of_ble_eq_true rfl) ⟨by decide, by decide, by decide, by decide⟩) (fun r11541 u11542 h11540 => ?_)
  obtain ⟨rfl, rfl⟩ := h11540
  refine z_imul (v := 6) b dX12_plainest_203 (by decide) ?_
  refine z_aload_n b dX12_plainest_204 rfl rfl ?_
  refine z_iload b dX12_plainest_205 rfl ?_
  refine z_bipush (v := 6) b dX12_plainest_207 (by decide) ?_
  refine z_idiv (v := 5) b dX12_plainest_209 (by decide) (by decide) ?_
  refine z_iload b dX12_plainest_210 rfl ?_
  refine z_calli b (z_runV (q0 := 0) (As := [.int 5, .int 2]) (st := [.int 6]) b (c_X12_renamed_19 (su (su (su S 34 0 3) 34 1 3) 34 2 3) h_a_31_17) cf_X12_renamed (mw_0 cy a (su (su (su S 34 0 3) 34 1 3) 34 2 3)) rfl wm_X12_445 wi_X12_renamed ws_X12_renamed dX12_plainest_212 rfl (Nat.le_of_ble_eq_true rfl) ⟨by decide, by decide, by decide, by decide⟩) (fun r11544 u11545 h11543 => ?_)
  obtain ⟨rfl, rfl⟩ := h11543
  refine z_iadd (v := 6) b dX12_plainest_215 (by decide) ?_
  refine z_istore (lv' := [(8, .int 6), (7, .int 2), (6, .int 0), (5, .int 34), (3, .long 1649317774848), (0, .ref (a 0)), (1, .long 1649317774848)]) b dX12_plainest_216 (by decide) rfl ?_
  refine z_aload_n b dX12_plainest_218 rfl rfl ?_
  refine z_get (q0 := 0) (k9 := 1) (v := .ref (a 2)) b (mw_0 cy a (su (su (su S 34 0 3) 34 1 3) 34 2 3)) rfl in_X12 (by decide) wf_X12_17 rfl dX12_plainest_219 ?_
  refine z_iload b dX12_plainest_222 rfl ?_
  refine z_aload_n b dX12_plainest_224 rfl rfl ?_
  refine z_get (q0 := 0) (k9 := 60) (v := .ref (a 35)) b (mw_0 cy a (su (su (su S 34 0 3) 34 1 3) 34 2 3)) rfl in_X12 (by decide) wf_X12_122 rfl dX12_plainest_225 ?_
  refine z_iconst (v := 3) b dX12_plainest_228 (by decide) ?_
  refine z_iload b dX12_plainest_229 rfl ?_
  refine z_imul (v := 0) b dX12_plainest_231 (by decide) ?_
  refine z_iload b dX12_plainest_232 rfl ?_
  refine z_iadd (v := 2) b dX12_plainest_234 (by decide) ?_
  refine y_iald (q0 := 35) (j := 2) (v := (ar (su (su (su S 34 0 3) 34 1 3) 34 2 3) 33 2)) b (mw_35 cy a (su (su (su S 34 0 3) 34 1 3) 34 2 3)) (by decide) rfl dX12_plainest_235 ?_
  refine z_eqi h_a_33_2 ?_
  refine y_iast (q0 := 2) (j := 6) b (mw_2 cy a (su (su (su S 34 0 3) 34 1 3) 34 2 3)) (by decide) dX12_plainest_236 ((mwa_2 cy a (su (su (su S 34 0 3) 34 1 3) 34 2 3) 6 0).trans (congrArg (mw cy a) (su_same h_a_1_6))) ?_
  refine z_aload_n b dX12_plainest_237 rfl rfl ?_
  refine z_get (q0 := 0) (k9 := 3) (v := .ref (a 4)) b (mw_0 cy a (su (su (su S 34 0 3) 34 1 3) 34 2 3)) rfl in_X12 (by decide) wf_X12_23 rfl dX12_plainest_238 ?_
  refine z_iload b dX12_plainest_241 rfl ?_
  refine z_aload_n b dX12_plainest_243 rfl rfl ?_
  refine z_get (q0 := 0) (k9 := 62) (v := .ref (a 37)) b (mw_0 cy a (su (su (su S 34 0 3) 34 1 3) 34 2 3)) rfl in_X12 (by decide) wf_X12_128 rfl dX12_plainest_244 ?_
  refine z_iconst (v := 3) b dX12_plainest_247 (by decide) ?_
  refine z_iload b dX12_plainest_248 rfl ?_
  refine z_imul (v := 0) b dX12_plainest_250 (by decide) ?_
  refine z_iload b dX12_plainest_251 rfl ?_
  refine z_iadd (v := 2) b dX12_plainest_253 (by decide) ?_
  refine y_zald (q0 := 37) (j := 2) (v := (ar (su (su (su S 34 0 3) 34 1 3) 34 2 3) 35 2)) b (mw_37 cy a (su (su (su S 34 0 3) 34 1 3) 34 2 3)) (by decide) rfl dX12_plainest_254 ?_
  refine z_eqi h_a_35_2 ?_
  refine y_zast (q0 := 4) (j := 6) b (mw_4 cy a (su (su (su S 34 0 3) 34 1 3) 34 2 3)) (by decide) (by decide) dX12_plainest_255 ((mwa_4 cy a (su (su (su S 34 0 3) 34 1 3) 34 2 3) 6 0).trans (congrArg (mw cy a) (su_same h_a_3_6))) ?_
  refine z_aload_n b dX12_plainest_256 rfl rfl ?_
  refine z_get (q0 := 0) (k9 := 4) (v := .ref (a 5)) b (mw_0 cy a (su (su (su S 34 0 3) 34 1 3) 34 2 3)) rfl in_X12 (by decide) wf_X12_27 rfl dX12_plainest_257 ?_
  refine z_iload b dX12_plainest_260 rfl ?_
  refine z_aload_n b dX12_plainest_262 rfl rfl ?_
  refine z_get (q0 := 0) (k9 := 63) (v := .ref (a 38)) b (mw_0 cy a (su (su (su S 34 0 3) 34 1 3) 34 2 3)) rfl in_X12 (by decide) wf_X12_131 rfl dX12_plainest_263 ?_
  refine z_iconst (v := 3) b dX12_plainest_266 (by decide) ?_
  refine z_iload b dX12_plainest_267 rfl ?_
  refine z_imul (v := 0) b dX12_plainest_269 (by decide) ?_
  refine z_iload b dX12_plainest_270 rfl ?_
  refine z_iadd (v := 2) b dX12_plainest_272 (by decide) ?_
  refine y_zald (q0 := 38) (j := 2) (v := (ar (su (su (su S 34 0 3) 34 1 3) 34 2 3) 36 2)) b (mw_38 cy a (su (su (su S 34 0 3) 34 1 3) 34 2 3)) (by decide) rfl dX12_plainest_273 ?_
  refine z_eqi h_a_36_2 ?_
  refine y_zast (q0 := 5) (j := 6) b (mw_5 cy a (su (su (su S 34 0 3) 34 1 3) 34 2 3)) (by decide) (by decide) dX12_plainest_274 ((mwa_5 cy a (su (su (su S 34 0 3) 34 1 3) 34 2 3) 6 0).trans (congrArg (mw cy a) (su_same h_a_4_6))) ?_
  refine z_iinc (k9 := 1) (v := 3) (lv' := [(7, .int 3), (8, .int 6), (6, .int 0), (5, .int 34), (3, .long 1649317774848), (0, .ref (a 0)), (1, .long 1649317774848)]) b dX12_plainest_275 rfl (by decide) (by decide) rfl ?_
  refine z_goto (tgt := 185) b dX12_plainest_278 (by decide) ?_
  refine z_iload b dX12_plainest_185 rfl ?_
  refine z_iconst (v := 3) b dX12_plainest_187 (by decide) ?_
  refine z_icmp_ge_t (tgt := 281) b dX12_plainest_188 (by decide) (by decide) ?_
  refine z_iinc (k9 := 2) (v := 1) (lv' := [(6, .int 1), (7, .int 3), (8, .int 6), (5, .int 34), (3, .long 1649317774848), (0, .ref (a 0)), (1, .long 1649317774848)]) b dX12_plainest_281 rfl (by decide) (by decide) rfl ?_
  refine z_goto (tgt := 121) b dX12_plainest_284 (by decide) ?_
  refine z_iload b dX12_plainest_121 rfl ?_
  refine z_iconst (v := 3) b dX12_plainest_123 (by decide) ?_
  refine z_icmp_ge_f (tgt := 287) b dX12_plainest_124 (by decide) (by decide) ?_
  refine z_aload_n b dX12_plainest_127 rfl rfl ?_
  refine z_get (q0 := 0) (k9 := 0) (v := .ref (a 1)) b (mw_0 cy a (su (su (su S 34 0 3) 34 1 3) 34 2 3)) rfl in_X12 (by decide) wf_X12_13 rfl dX12_plainest_128 ?_
  refine z_aload_n b dX12_plainest_131 rfl rfl ?_
  refine z_iload b dX12_plainest_132 rfl ?_
  refine z_bipush (v := 6) b dX12_plainest_134 (by decide) ?_
  refine z_idiv (v := 5) b dX12_plainest_136 (by decide) (by decide) ?_
  refine z_iload b dX12_plainest_137 rfl ?_
  refine z_calli b (z_runV (q0 := 0) (As := [.int 5, .int 1]) (st := [.ref (a 1)]) b (c_X12_renamed_18 (su (su (su S 34 0 3) 34 1 3) 34 2 3) h_a_31_16) cf_X12_renamed (mw_0 cy a (su (su (su S 34 0 3) 34 1 3) 34 2 3)) rfl wm_X12_445 wi_X12_renamed ws_X12_renamed dX12_plainest_139 rfl (Nat.le_of_ble_eq_true rfl) ⟨by decide, by decide, by decide, by decide⟩) (fun r11547 u11548 h11546 => ?_)
  obtain ⟨rfl, rfl⟩ := h11546
  refine z_aload_n b dX12_plainest_142 rfl rfl ?_
  refine z_get (q0 := 0) (k9 := 59) (v := .ref (a 34)) b (mw_0 cy a (su (su (su S 34 0 3) 34 1 3) 34 2 3)) rfl in_X12 (by decide) wf_X12_119 rfl dX12_plainest_143 ?_
  refine z_iload b dX12_plainest_146 rfl ?_
  refine y_iald (q0 := 34) (j := 1) (v := (ar (su (su (su S 34 0 3) 34 1 3) 34 2 3) 32 1)) b (mw_34 cy a (su (su (su S 34 0 3) 34 1 3) 34 2 3)) (by decide) rfl dX12_plainest_148 ?_
  refine z_eqi h_a_32_1 ?_
  refine y_iast (q0 := 1) (j := 1) b (mw_1 cy a (su (su (su S 34 0 3) 34 1 3) 34 2 3)) (by decide) dX12_plainest_149 ((mwa_1 cy a (su (su (su S 34 0 3) 34 1 3) 34 2 3) 1 0).trans (congrArg (mw cy a) (su_same h_a_0_1))) ?_
  refine z_aload_n b dX12_plainest_150 rfl rfl ?_
  refine z_get (q0 := 0) (k9 := 2) (v := .ref (a 3)) b (mw_0 cy a (su (su (su S 34 0 3) 34 1 3) 34 2 3)) rfl in_X12 (by decide) wf_X12_20 rfl dX12_plainest_151 ?_
  refine z_aload_n b dX12_plainest_154 rfl rfl ?_
  refine z_iload b dX12_plainest_155 rfl ?_
  refine z_bipush (v := 6) b dX12_plainest_157 (by decide) ?_
  refine z_irem (v := 4) b dX12_plainest_159 (by decide) (by decide) ?_
  refine z_iload b dX12_plainest_160 rfl ?_
  refine z_calli b (z_runV (q0 := 0) (As := [.int 4, .int 1]) (st := [.ref (a 3)]) b (c_X12_renamed_15 (su (su (su S 34 0 3) 34 1 3) 34 2 3) h_a_31_13) cf_X12_renamed (mw_0 cy a (su (su (su S 34 0 3) 34 1 3) 34 2 3)) rfl wm_X12_445 wi_X12_renamed ws_X12_renamed dX12_plainest_162 rfl (Nat.le_of_ble_eq_true rfl) ⟨by decide, by decide, by decide, by decide⟩) (fun r11550 u11551 h11549 => ?_)
  obtain ⟨rfl, rfl⟩ := h11549
  refine z_aload_n b dX12_plainest_165 rfl rfl ?_
  refine z_iload b dX12_plainest_166 rfl ?_
  refine z_bipush (v := 6) b dX12_plainest_168 (by decide) ?_
  refine z_idiv (v := 5) b dX12_plainest_170 (by decide) (by decide) ?_
  refine z_aload_n b dX12_plainest_171 rfl rfl ?_
  refine z_get (q0 := 0) (k9 := 61) (v := .ref (a 36)) b (mw_0 cy a (su (su (su S 34 0 3) 34 1 3) 34 2 3)) rfl in_X12 (by decide) wf_X12_125 rfl dX12_plainest_172 ?_
  refine z_iload b dX12_plainest_175 rfl ?_
  refine y_iald (q0 := 36) (j := 1) (v := 3) b (mw_36 cy a (su (su (su S 34 0 3) 34 1 3) 34 2 3)) (by decide) rfl dX12_plainest_177 ?_
  refine z_calli b (z_runV (q0 := 0) (As := [.int 5, .int 3]) (st := [.int 0, .ref (a 3)]) b (c_X12_renamed_24 (su (su (su S 34 0 3) 34 1 3) 34 2 3) ) cf_X12_renamed (mw_0 cy a (su (su (su S 34 0 3) 34 1 3) 34 2 3)) rfl wm_X12_445 wi_X12_renamed ws_X12_renamed dX12_plainest_178 rfl (Nat.le_of_ble_eq_true rfl) ⟨by decide, by decide, by decide, by decide⟩) (fun r11553 u11554 h11552 => ?_)
  obtain ⟨rfl, rfl⟩ := h11552
  refine y_iast (q0 := 3) (j := 0) b (mw_3 cy a (su (su (su S 34 0 3) 34 1 3) 34 2 3)) (by decide) dX12_plainest_181 ((mwa_3 cy a (su (su (su S 34 0 3) 34 1 3) 34 2 3) 0 3).trans (congrArg (mw cy a) (su_same h_a_2_0))) ?_
  refine z_iconst (v := 0) b dX12_plainest_182 (by decide) ?_
  refine z_istore (lv' := [(7, .int 0), (6, .int 1), (8, .int 6), (5, .int 34), (3, .long 1649317774848), (0, .ref (a 0)), (1, .long 1649317774848)]) b dX12_plainest_183 (by decide) rfl ?_
  refine z_iload b dX12_plainest_185 rfl ?_
  refine z_iconst (v := 3) b dX12_plainest_187 (by decide) ?_
  refine z_icmp_ge_f (tgt := 281) b dX12_plainest_188 (by decide) (by decide) ?_
  refine z_iconst (v := 3) b dX12_plainest_191 (by decide) ?_
  refine z_aload_n b dX12_plainest_192 rfl rfl ?_
  refine z_iload b dX12_plainest_193 rfl ?_
  refine z_bipush (v := 6) b dX12_plainest_195 (by decide) ?_
  refine z_idiv (v := 5) b dX12_plainest_197 (by decide) (by decide) ?_
  refine z_iload b dX12_plainest_198 rfl ?_
  refine z_calli b (z_runV (q0 := 0) (As := [.int 5, .int 1]) (st := [.int 3]) b (c_X12_renamed_18 (su (su (su S 34 0 3) 34 1 3) 34 2 3) h_a_31_16) cf_X12_renamed (mw_0 cy a (su (su (su S 34 0 3) 34 1 3) 34 2 3)) rfl wm_X12_445 wi_X12_renamed ws_X12_renamed dX12_plainest_200 rfl (Nat.le_of_ble_eq_true rfl) ⟨by decide, by decide, by decide, by decide⟩) (fun r11556 u11557 h11555 => ?_)
  obtain ⟨rfl, rfl⟩ := h11555
  refine z_imul (v := 3) b dX12_plainest_203 (by decide) ?_
  refine z_aload_n b dX12_plainest_204 rfl rfl ?_
  refine z_iload b dX12_plainest_205 rfl ?_
  refine z_bipush (v := 6) b dX12_plainest_207 (by decide) ?_
  refine z_idiv (v := 5) b dX12_plainest_209 (by decide) (by decide) ?_
  refine z_iload b dX12_plainest_210 rfl ?_
  refine z_calli b (z_runV (q0 := 0) (As := [.int 5, .int 0]) (st := [.int 3]) b (c_X12_renamed_17 (su (su (su S 34 0 3) 34 1 3) 34 2 3) h_a_31_15) cf_X12_renamed (mw_0 cy a (su (su (su S 34 0 3) 34 1 3) 34 2 3)) rfl wm_X12_445 wi_X12_renamed ws_X12_renamed dX12_plainest_212 rfl (Nat.le_of_ble_eq_true rfl) ⟨by decide, by decide, by decide, by decide⟩) (fun r11559 u11560 h11558 => ?_)
  obtain ⟨rfl, rfl⟩ := h11558
  refine z_iadd (v := 5) b dX12_plainest_215 (by decide) ?_
  refine z_istore (lv' := [(8, .int 5), (7, .int 0), (6, .int 1), (5, .int 34), (3, .long 1649317774848), (0, .ref (a 0)), (1, .long 1649317774848)]) b dX12_plainest_216 (by decide) rfl ?_
  refine z_aload_n b dX12_plainest_218 rfl rfl ?_
  refine z_get (q0 := 0) (k9 := 1) (v := .ref (a 2)) b (mw_0 cy a (su (su (su S 34 0 3) 34 1 3) 34 2 3)) rfl in_X12 (by decide) wf_X12_17 rfl dX12_plainest_219 ?_
  refine z_iload b dX12_plainest_222 rfl ?_
  refine z_aload_n b dX12_plainest_224 rfl rfl ?_
  refine z_get (q0 := 0) (k9 := 60) (v := .ref (a 35)) b (mw_0 cy a (su (su (su S 34 0 3) 34 1 3) 34 2 3)) rfl in_X12 (by decide) wf_X12_122 rfl dX12_plainest_225 ?_
  refine z_iconst (v := 3) b dX12_plainest_228 (by decide) ?_
  refine z_iload b dX12_plainest_229 rfl ?_
  refine z_imul (v := 3) b dX12_plainest_231 (by decide) ?_
  refine z_iload b dX12_plainest_232 rfl ?_
  refine z_iadd (v := 3) b dX12_plainest_234 (by decide) ?_
  refine y_iald (q0 := 35) (j := 3) (v := (ar (su (su (su S 34 0 3) 34 1 3) 34 2 3) 33 3)) b (mw_35 cy a (su (su (su S 34 0 3) 34 1 3) 34 2 3)) (by decide) rfl dX12_plainest_235 ?_
  refine z_eqi h_a_33_3 ?_
  refine y_iast (q0 := 2) (j := 5) b (mw_2 cy a (su (su (su S 34 0 3) 34 1 3) 34 2 3)) (by decide) dX12_plainest_236 ((mwa_2 cy a (su (su (su S 34 0 3) 34 1 3) 34 2 3) 5 0).trans (congrArg (mw cy a) (su_same h_a_1_5))) ?_
  refine z_aload_n b dX12_plainest_237 rfl rfl ?_
  refine z_get (q0 := 0) (k9 := 3) (v := .ref (a 4)) b (mw_0 cy a (su (su (su S 34 0 3) 34 1 3) 34 2 3)) rfl in_X12 (by decide) wf_X12_23 rfl dX12_plainest_238 ?_
  refine z_iload b dX12_plainest_241 rfl ?_
  exact k

set_option maxHeartbeats 4000000 in
set_option maxRecDepth 100000 in
theorem ch_X12_plainest_340 {p : Program} {l : Launch} {e : Env} {R : Room} {s : State} {m : MethodId} {args : Array Value} {below : List Frame} {meth : Method} {c : Code} {D : va_G} {cy : Nat → ClassId} {T0 tB tE : Nat} {A : Nat → Prop} {Q : State → Prop} {a : Nat → Nat} (S : GS)  (h_a_1_3 : ar S 1 3 = 0) (h_a_1_4 : ar S 1 4 = 0) (h_a_31_16 : ar S 31 16 = 1) (h_a_31_17 : ar S 31 17 = 0) (h_a_33_4 : ar S 33 4 = 0) (h_a_33_5 : ar S 33 5 = 0) (h_a_35_3 : ar S 35 3 = 0) (h_a_35_4 : ar S 35 4 = 0) (h_a_35_5 : ar S 35 5 = 0) (h_a_36_3 : ar S 36 3 = 0) (h_a_36_4 : ar S 36 4 = 0) (h_a_36_5 : ar S 36 5 = 0) (h_a_3_3 : ar S 3 3 = 0) (h_a_3_4 : ar S 3 4 = 0) (h_a_3_5 : ar S 3 5 = 0) (h_a_4_3 : ar S 4 3 = 0) (h_a_4_4 : ar S 4 4 = 0) (h_a_4_5 : ar S 4 5 = 0) (b : Bz p R s m args meth c D cy T0 tB tE A 9 cX12_plainest RX12 (some .long) "plainest" 2 47 0 0) (k : Z p l e R s m args below meth c D A 9 Q 0 0 (mw cy a (su (su (su S 34 0 3) 34 1 3) 34 2 3)) [(7, .int 3), (8, .int 3), (6, .int 1), (5, .int 34), (3, .long 1649317774848), (0, .ref (a 0)), (1, .long 1649317774848)] 188 [.int 3, .int 3]) : Z p l e R s m args below meth c D A 9 Q 0 0 (mw cy a (su (su (su S 34 0 3) 34 1 3) 34 2 3)) [(8, .int 5), (7, .int 0), (6, .int 1), (5, .int 34), (3, .long 1649317774848), (0, .ref (a 0)), (1, .long 1649317774848)] 243 [.int 5, .ref (a 4)] := by
  refine z_aload_n b dX12_plainest_243 rfl rfl ?_
  refine z_get (q0 := 0) (k9 := 62) (v := .ref (a 37)) b (mw_0 cy a (su (su (su S 34 0 3) 34 1 3) 34 2 3)) rfl in_X12 (by decide) wf_X12_128 rfl dX12_plainest_244 ?_
  refine z_iconst (v := 3) b dX12_plainest_247 (by decide) ?_
  refine z_iload b dX12_plainest_248 rfl ?_
  refine z_imul (v := 3) b dX12_plainest_250 (by decide) ?_
  refine z_iload b dX12_plainest_251 rfl ?_
  refine z_iadd (v := 3) b dX12_plainest_253 (by decide) ?_
  refine y_zald (q0 := 37) (j := 3) (v := (ar (su (su (su S 34 0 3) 34 1 3) 34 2 3) 35 3)) b (mw_37 cy a (su (su (su S 34 0 3) 34 1 3) 34 2 3)) (by decide) rfl dX12_plainest_254 ?_
  refine z_eqi h_a_35_3 ?_
  refine y_zast (q0 := 4) (j := 5) b (mw_4 cy a (su (su (su S 34 0 3) 34 1 3) 34 2 3)) (by decide) (by decide) dX12_plainest_255 ((mwa_4 cy a (su (su (su S 34 0 3) 34 1 3) 34 2 3) 5 0).trans (congrArg (mw cy a) (su_same h_a_3_5))) ?_
  refine z_aload_n b dX12_plainest_256 rfl rfl ?_
  refine z_get (q0 := 0) (k9 := 4) (v := .ref (a 5)) b (mw_0 cy a (su (su (su S 34 0 3) 34 1 3) 34 2 3)) rfl in_X12 (by decide) wf_X12_27 rfl dX12_plainest_257 ?_
  refine z_iload b dX12_plainest_260 rfl ?_
  refine z_aload_n b dX12_plainest_262 rfl rfl ?_
  refine z_get (q0 := 0) (k9 := 63) (v := .ref (a 38)) b (mw_0 cy a (su (su (su S 34 0 3) 34 1 3) 34 2 3)) rfl in_X12 (by decide) wf_X12_131 rfl dX12_plainest_263 ?_
  refine z_iconst (v := 3) b dX12_plainest_266 (by decide) ?_
  refine z_iload b dX12_plainest_267 rfl ?_
  refine z_imul (v := 3) b dX12_plainest_269 (by decide) ?_
  refine z_iload b dX12_plainest_270 rfl ?_
  refine z_iadd (v := 3) b dX12_plainest_272 (by decide) ?_
  refine y_zald (q0 := 38) (j := 3) (v := (ar (su (su (su S 34 0 3) 34 1 3) 34 2 3) 36 3)) b (mw_38 cy a (su (su (su S 34 0 3) 34 1 3) 34 2 3)) (by decide) rfl dX12_plainest_273 ?_
  refine z_eqi h_a_36_3 ?_
  refine y_zast (q0 := 5) (j := 5) b (mw_5 cy a (su (su (su S 34 0 3) 34 1 3) 34 2 3)) (by decide) (by decide) dX12_plainest_274 ((mwa_5 cy a (su (su (su S 34 0 3) 34 1 3) 34 2 3) 5 0).trans (congrArg (mw cy a) (su_same h_a_4_5))) ?_
  refine z_iinc (k9 := 1) (v := 1) (lv' := [(7, .int 1), (8, .int 5), (6, .int 1), (5, .int 34), (3, .long 1649317774848), (0, .ref (a 0)), (1, .long 1649317774848)]) b dX12_plainest_275 rfl (by decide) (by decide) rfl ?_
  refine z_goto (tgt := 185) b dX12_plainest_278 (by decide) ?_
  refine z_iload b dX12_plainest_185 rfl ?_
  refine z_iconst (v := 3) b dX12_plainest_187 (by decide) ?_
  refine z_icmp_ge_f (tgt := 281) b dX12_plainest_188 (by decide) (by decide) ?_
  refine z_iconst (v := 3) b dX12_plainest_191 (by decide) ?_
  refine z_aload_n b dX12_plainest_192 rfl rfl ?_
  refine z_iload b dX12_plainest_193 rfl ?_
  refine z_bipush (v := 6) b dX12_plainest_195 (by decide) ?_
  refine z_idiv (v := 5) b dX12_plainest_197 (by decide) (by decide) ?_
  refine z_iload b dX12_plainest_198 rfl ?_
  refine z_calli b (z_runV (q0 := 0) (As := [.int 5, .int 1]) (st := [.int 3]) b (c_X12_renamed_18 (su (su (su S 34 0 3) 34 1 3) 34 2 3) h_a_31_16) cf_X12_renamed (mw_0 cy a (su (su (su S 34 0 3) 34 1 3) 34 2 3)) rfl wm_X12_445 wi_X12_renamed ws_X12_renamed dX12_plainest_200 rfl (Nat.le_of_ble_eq_true rfl) ⟨by decide, by decide, by decide, by decide⟩) (fun r11562 u11563 h11561 => ?_)
  obtain ⟨rfl, rfl⟩ := h11561
  refine z_imul (v := 3) b dX12_plainest_203 (by decide) ?_
  refine z_aload_n b dX12_plainest_204 rfl rfl ?_
  refine z_iload b dX12_plainest_205 rfl ?_
  refine z_bipush (v := 6) b dX12_plainest_207 (by decide) ?_
  refine z_idiv (v := 5) b dX12_plainest_209 (by decide) (by decide) ?_
  refine z_iload b dX12_plainest_210 rfl ?_
  refine z_calli b (z_runV (q0 := 0) (As := [.int 5, .int 1]) (st := [.int 3]) b (c_X12_renamed_18 (su (su (su S 34 0 3) 34 1 3) 34 2 3) h_a_31_16) cf_X12_renamed (mw_0 cy a (su (su (su S 34 0 3) 34 1 3) 34 2 3)) rfl wm_X12_445 wi_X12_renamed ws_X12_renamed dX12_plainest_212 rfl (Nat.le_of_ble_eq_true rfl) ⟨by decide, by decide, by decide, by decide⟩) (fun r11565 u11566 h11564 => ?_)
  obtain ⟨rfl, rfl⟩ := h11564
  refine z_iadd (v := 4) b dX12_plainest_215 (by decide) ?_
  refine z_istore (lv' := [(8, .int 4), (7, .int 1), (6, .int 1), (5, .int 34), (3, .long 1649317774848), (0, .ref (a 0)), (1, .long 1649317774848)]) b dX12_plainest_216 (by decide) rfl ?_
  refine z_aload_n b dX12_plainest_218 rfl rfl ?_
  refine z_get (q0 := 0) (k9 := 1) (v := .ref (a 2)) b (mw_0 cy a (su (su (su S 34 0 3) 34 1 3) 34 2 3)) rfl in_X12 (by decide) wf_X12_17 rfl dX12_plainest_219 ?_
  refine z_iload b dX12_plainest_222 rfl ?_
  refine z_aload_n b dX12_plainest_224 rfl rfl ?_
  refine z_get (q0 := 0) (k9 := 60) (v := .ref (a 35)) b (mw_0 cy a (su (su (su S 34 0 3) 34 1 3) 34 2 3)) rfl in_X12 (by decide) wf_X12_122 rfl dX12_plainest_225 ?_
  refine z_iconst (v := 3) b dX12_plainest_228 (by decide) ?_
  refine z_iload b dX12_plainest_229 rfl ?_
  refine z_imul (v := 3) b dX12_plainest_231 (by decide) ?_
  refine z_iload b dX12_plainest_232 rfl ?_
  refine z_iadd (v := 4) b dX12_plainest_234 (by decide) ?_
  refine y_iald (q0 := 35) (j := 4) (v := (ar (su (su (su S 34 0 3) 34 1 3) 34 2 3) 33 4)) b (mw_35 cy a (su (su (su S 34 0 3) 34 1 3) 34 2 3)) (by decide) rfl dX12_plainest_235 ?_
  refine z_eqi h_a_33_4 ?_
  refine y_iast (q0 := 2) (j := 4) b (mw_2 cy a (su (su (su S 34 0 3) 34 1 3) 34 2 3)) (by decide) dX12_plainest_236 ((mwa_2 cy a (su (su (su S 34 0 3) 34 1 3) 34 2 3) 4 0).trans (congrArg (mw cy a) (su_same h_a_1_4))) ?_
  refine z_aload_n b dX12_plainest_237 rfl rfl ?_
  refine z_get (q0 := 0) (k9 := 3) (v := .ref (a 4)) b (mw_0 cy a (su (su (su S 34 0 3) 34 1 3) 34 2 3)) rfl in_X12 (by decide) wf_X12_23 rfl dX12_plainest_238 ?_
  refine z_iload b dX12_plainest_241 rfl ?_
  refine z_aload_n b dX12_plainest_243 rfl rfl ?_
  refine z_get (q0 := 0) (k9 := 62) (v := .ref (a 37)) b (mw_0 cy a (su (su (su S 34 0 3) 34 1 3) 34 2 3)) rfl in_X12 (by decide) wf_X12_128 rfl dX12_plainest_244 ?_
  refine z_iconst (v := 3) b dX12_plainest_247 (by decide) ?_
  refine z_iload b dX12_plainest_248 rfl ?_
  refine z_imul (v := 3) b dX12_plainest_250 (by decide) ?_
  refine z_iload b dX12_plainest_251 rfl ?_
  refine z_iadd (v := 4) b dX12_plainest_253 (by decide) ?_
  refine y_zald (q0 := 37) (j := 4) (v := (ar (su (su (su S 34 0 3) 34 1 3) 34 2 3) 35 4)) b (mw_37 cy a (su (su (su S 34 0 3) 34 1 3) 34 2 3)) (by decide) rfl dX12_plainest_254 ?_
  refine z_eqi h_a_35_4 ?_
  refine y_zast (q0 := 4) (j := 4) b (mw_4 cy a (su (su (su S 34 0 3) 34 1 3) 34 2 3)) (by decide) (by decide) dX12_plainest_255 ((mwa_4 cy a (su (su (su S 34 0 3) 34 1 3) 34 2 3) 4 0).trans (congrArg (mw cy a) (su_same h_a_3_4))) ?_
  refine z_aload_n b dX12_plainest_256 rfl rfl ?_
  refine z_get (q0 := 0) (k9 := 4) (v := .ref (a 5)) b (mw_0 cy a (su (su (su S 34 0 3) 34 1 3) 34 2 3)) rfl in_X12 (by decide) wf_X12_27 rfl dX12_plainest_257 ?_
  refine z_iload b dX12_plainest_260 rfl ?_
  refine z_aload_n b dX12_plainest_262 rfl rfl ?_
  refine z_get (q0 := 0) (k9 := 63) (v := .ref (a 38)) b (mw_0 cy a (su (su (su S 34 0 3) 34 1 3) 34 2 3)) rfl in_X12 (by decide) wf_X12_131 rfl dX12_plainest_263 ?_
  refine z_iconst (v := 3) b dX12_plainest_266 (by decide) ?_
  refine z_iload b dX12_plainest_267 rfl ?_
  refine z_imul (v := 3) b dX12_plainest_269 (by decide) ?_
  refine z_iload b dX12_plainest_270 rfl ?_
  refine z_iadd (v := 4) b dX12_plainest_272 (by decide) ?_
  refine y_zald (q0 := 38) (j := 4) (v := (ar (su (su (su S 34 0 3) 34 1 3) 34 2 3) 36 4)) b (mw_38 cy a (su (su (su S 34 0 3) 34 1 3) 34 2 3)) (by decide) rfl dX12_plainest_273 ?_
  refine z_eqi h_a_36_4 ?_
  refine y_zast (q0 := 5) (j := 4) b (mw_5 cy a (su (su (su S 34 0 3) 34 1 3) 34 2 3)) (by decide) (by decide) dX12_plainest_274 ((mwa_5 cy a (su (su (su S 34 0 3) 34 1 3) 34 2 3) 4 0).trans (congrArg (mw cy a) (su_same h_a_4_4))) ?_
  refine z_iinc (k9 := 1) (v := 2) (lv' := [(7, .int 2), (8, .int 4), (6, .int 1), (5, .int 34), (3, .long 1649317774848), (0, .ref (a 0)), (1, .long 1649317774848)]) b dX12_plainest_275 rfl (by decide) (by decide) rfl ?_
  refine z_goto (tgt := 185) b dX12_plainest_278 (by decide) ?_
  refine z_iload b dX12_plainest_185 rfl ?_
  refine z_iconst (v := 3) b dX12_plainest_187 (by decide) ?_
  refine z_icmp_ge_f (tgt := 281) b dX12_plainest_188 (by decide) (by decide) ?_
  refine z_iconst (v := 3) b dX12_plainest_191 (by decide) ?_
  refine z_aload_n b dX12_plainest_192 rfl rfl ?_
  refine z_iload b dX12_plainest_193 rfl ?_
  refine z_bipush (v := 6) b dX12_plainest_195 (by decide) ?_
  refine z_idiv (v := 5) b dX12_plainest_197 (by decide) (by decide) ?_
  refine z_iload b dX12_plainest_198 rfl ?_
  refine z_calli b (z_runV (q0 := 0) (As := [.int 5, .int 1]) (st := [.int 3]) b (c_X12_renamed_18 (su (su (su S 34 0 3) 34 1 3) 34 2 3) h_a_31_16) cf_X12_renamed (mw_0 cy a (su (su (su S 34 0 3) 34 1 3) 34 2 3)) rfl wm_X12_445 wi_X12_renamed ws_X12_renamed dX12_plainest_200 rfl (Nat.le_of_ble_eq_true rfl) ⟨by decide, by decide, by decide, by decide⟩) (fun r11568 u11569 h11567 => ?_)
  obtain ⟨rfl, rfl⟩ := h11567
  refine z_imul (v := 3) b dX12_plainest_203 (by decide) ?_
  refine z_aload_n b dX12_plainest_204 rfl rfl ?_
  refine z_iload b dX12_plainest_205 rfl ?_
  refine z_bipush (v := 6) b dX12_plainest_207 (by decide) ?_
  refine z_idiv (v := 5) b dX12_plainest_209 (by decide) (by decide) ?_
  refine z_iload b dX12_plainest_210 rfl ?_
  refine z_calli b (z_runV (q0 := 0) (As := [.int 5, .int 2]) (st := [.int 3]) b (c_X12_renamed_19 (su (su (su S 34 0 3) 34 1 3) 34 2 3) h_a_31_17) cf_X12_renamed (mw_0 cy a (su (su (su S 34 0 3) 34 1 3) 34 2 3)) rfl wm_X12_445 wi_X12_renamed ws_X12_renamed dX12_plainest_212 rfl (Nat.le_of_ble_eq_true rfl) ⟨by decide, by decide, by decide, by decide⟩) (fun r11571 u11572 h11570 => ?_)
  obtain ⟨rfl, rfl⟩ := h11570
  refine z_iadd (v := 3) b dX12_plainest_215 (by decide) ?_
  refine z_istore (lv' := [(8, .int 3), (7, .int 2), (6, .int 1), (5, .int 34), (3, .long 1649317774848), (0, .ref (a 0)), (1, .long 1649317774848)]) b dX12_plainest_216 (by decide) rfl ?_
  refine z_aload_n b dX12_plainest_218 rfl rfl ?_
  refine z_get (q0 := 0) (k9 := 1) (v := .ref (a 2)) b (mw_0 cy a (su (su (su S 34 0 3) 34 1 3) 34 2 3)) rfl in_X12 (by decide) wf_X12_17 rfl dX12_plainest_219 ?_
  refine z_iload b dX12_plainest_222 rfl ?_
  refine z_aload_n b dX12_plainest_224 rfl rfl ?_
  refine z_get (q0 := 0) (k9 := 60) (v := .ref (a 35)) b (mw_0 cy a (su (su (su S 34 0 3) 34 1 3) 34 2 3)) rfl in_X12 (by decide) wf_X12_122 rfl dX12_plainest_225 ?_
  refine z_iconst (v := 3) b dX12_plainest_228 (by decide) ?_
  refine z_iload b dX12_plainest_229 rfl ?_
  refine z_imul (v := 3) b dX12_plainest_231 (by decide) ?_
  refine z_iload b dX12_plainest_232 rfl ?_
  refine z_iadd (v := 5) b dX12_plainest_234 (by decide) ?_
  refine y_iald (q0 := 35) (j := 5) (v := (ar (su (su (su S 34 0 3) 34 1 3) 34 2 3) 33 5)) b (mw_35 cy a (su (su (su S 34 0 3) 34 1 3) 34 2 3)) (by decide) rfl dX12_plainest_235 ?_
  refine z_eqi h_a_33_5 ?_
  refine y_iast (q0 := 2) (j := 3) b (mw_2 cy a (su (su (su S 34 0 3) 34 1 3) 34 2 3)) (by decide) dX12_plainest_236 ((mwa_2 cy a (su (su (su S 34 0 3) 34 1 3) 34 2 3) 3 0).trans (congrArg (mw cy a) (su_same h_a_1_3))) ?_
  refine z_aload_n b dX12_plainest_237 rfl rfl ?_
  refine z_get (q0 := 0) (k9 := 3) (v := .ref (a 4)) b (mw_0 cy a (su (su (su S 34 0 3) 34 1 3) 34 2 3)) rfl in_X12 (by decide) wf_X12_23 rfl dX12_plainest_238 ?_
  refine z_iload b dX12_plainest_241 rfl ?_
  refine z_aload_n b dX12_plainest_243 rfl rfl ?_
  refine z_get (q0 := 0) (k9 := 62) (v := .ref (a 37)) b (mw_0 cy a (su (su (su S 34 0 3) 34 1 3) 34 2 3)) rfl in_X12 (by decide) wf_X12_128 rfl dX12_plainest_244 ?_
  refine z_iconst (v := 3) b dX12_plainest_247 (by decide) ?_
  refine z_iload b dX12_plainest_248 rfl ?_
  refine z_imul (v := 3) b dX12_plainest_250 (by decide) ?_
  refine z_iload b dX12_plainest_251 rfl ?_
  refine z_iadd (v := 5) b dX12_plainest_253 (by decide) ?_
  refine y_zald (q0 := 37) (j := 5) (v := (ar (su (su (su S 34 0 3) 34 1 3) 34 2 3) 35 5)) b (mw_37 cy a (su (su (su S 34 0 3) 34 1 3) 34 2 3)) (by decide) rfl dX12_plainest_254 ?_
  refine z_eqi h_a_35_5 ?_
  refine y_zast (q0 := 4) (j := 3) b (mw_4 cy a (su (su (su S 34 0 3) 34 1 3) 34 2 3)) (by decide) (by decide) dX12_plainest_255 ((mwa_4 cy a (su (su (su S 34 0 3) 34 1 3) 34 2 3) 3 0).trans (congrArg (mw cy a) (su_same h_a_3_3))) ?_
  refine z_aload_n b dX12_plainest_256 rfl rfl ?_
  refine z_get (q0 := 0) (k9 := 4) (v := .ref (a 5)) b (mw_0 cy a (su (su (su S 34 0 3) 34 1 3) 34 2 3)) rfl in_X12 (by decide) wf_X12_27 rfl dX12_plainest_257 ?_
  refine z_iload b dX12_plainest_260 rfl ?_
  refine z_aload_n b dX12_plainest_262 rfl rfl ?_
  refine z_get (q0 := 0) (k9 := 63) (v := .ref (a 38)) b (mw_0 cy a (su (su (su S 34 0 3) 34 1 3) 34 2 3)) rfl in_X12 (by decide) wf_X12_131 rfl dX12_plainest_263 ?_
  refine z_iconst (v := 3) b dX12_plainest_266 (by decide) ?_
  refine z_iload b dX12_plainest_267 rfl ?_
  refine z_imul (v := 3) b dX12_plainest_269 (by decide) ?_
  refine z_iload b dX12_plainest_270 rfl ?_
  refine z_iadd (v := 5) b dX12_plainest_272 (by decide) ?_
  refine y_zald (q0 := 38) (j := 5) (v := (ar (su (su (su S 34 0 3) 34 1 3) 34 2 3) 36 5)) b (mw_38 cy a (su (su (su S 34 0 3) 34 1 3) 34 2 3)) (by decide) rfl dX12_plainest_273 ?_
  refine z_eqi h_a_36_5 ?_
  refine y_zast (q0 := 5) (j := 3) b (mw_5 cy a (su (su (su S 34 0 3) 34 1 3) 34 2 3)) (by decide) (by decide) dX12_plainest_274 ((mwa_5 cy a (su (su (su S 34 0 3) 34 1 3) 34 2 3) 3 0).trans (congrArg (mw cy a) (su_same h_a_4_3))) ?_
  refine z_iinc (k9 := 1) (v := 3) (lv' := [(7, .int 3), (8, .int 3), (6, .int 1), (5, .int 34), (3, .long 1649317774848), (0, .ref (a 0)), (1, .long 1649317774848)]) b dX12_plainest_275 rfl (by decide) (by decide) rfl ?_
  refine z_goto (tgt := 185) b dX12_plainest_278 (by decide) ?_
  refine z_iload b dX12_plainest_185 rfl ?_
  refine z_iconst (v := 3) b dX12_plainest_187 (by decide) ?_
  exact k

set_option maxHeartbeats 4000000 in
set_option maxRecDepth 100000 in
theorem ch_X12_plainest_341 {p : Program} {l : Launch} {e : Env} {R : Room} {s : State} {m : MethodId} {args : Array Value} {below : List Frame} {meth : Method} {c : Code} {D : va_G} {cy : Nat → ClassId} {T0 tB tE : Nat} {A : Nat → Prop} {Q : State → Prop} {a : Nat → Nat} (S : GS)  (h_a_0_0 : ar S 0 0 = 0) (h_a_1_1 : ar S 1 1 = 0) (h_a_1_2 : ar S 1 2 = 0) (h_a_2_1 : ar S 2 1 = 3) (h_a_31_14 : ar S 31 14 = 1) (h_a_31_15 : ar S 31 15 = 2) (h_a_31_16 : ar S 31 16 = 1) (h_a_31_17 : ar S 31 17 = 0) (h_a_32_2 : ar S 32 2 = 0) (h_a_33_6 : ar S 33 6 = 0) (h_a_33_7 : ar S 33 7 = 0) (h_a_35_6 : ar S 35 6 = 0) (h_a_35_7 : ar S 35 7 = 0) (h_a_36_6 : ar S 36 6 = 0) (h_a_3_2 : ar S 3 2 = 0) (h_a_4_2 : ar S 4 2 = 0) (b : Bz p R s m args meth c D cy T0 tB tE A 9 cX12_plainest RX12 (some .long) "plainest" 2 47 0 0) (k : Z p l e R s m args below meth c D A 9 Q 0 0 (mw cy a (su (su (su S 34 0 3) 34 1 3) 34 2 3)) [(8, .int 1), (7, .int 1), (6, .int 2), (5, .int 34), (3, .long 1649317774848), (0, .ref (a 0)), (1, .long 1649317774848)] 255 [.int 0, .int 1, .ref (a 4)]) : Z p l e R s m args below meth c D A 9 Q 0 0 (mw cy a (su (su (su S 34 0 3) 34 1 3) 34 2 3)) [(7, .int 3), (8, .int 3), (6, .int 1), (5, .int 34), (3, .long 1649317774848), (0, .ref (a 0)), (1, .long 1649317774848)] 188 [.int 3, .int 3] := by
  refine z_icmp_ge_t (tgt := 281) b dX12_plainest_188 (by decide) (by decide) ?_
  refine z_iinc (k9 := 2) (v := 2) (lv' := [(6, .int 2), (7, .int 3), (8, .int 3), (5, .int 34), (3, .long 1649317774848), (0, .ref (a 0)), (1, .long 1649317774848)]) b dX12_plainest_281 rfl (by decide) (by decide) rfl ?_
  refine z_goto (tgt := 121) b dX12_plainest_284 (by decide) ?_
  refine z_iload b dX12_plainest_121 rfl ?_
  refine z_iconst (v := 3) b dX12_plainest_123 (by decide) ?_
  refine z_icmp_ge_f (tgt := 287) b dX12_plainest_124 (by decide) (by decide) ?_
  refine z_aload_n b dX12_plainest_127 rfl rfl ?_
  refine z_get (q0 := 0) (k9 := 0) (v := .ref (a 1)) b (mw_0 cy a (su (su (su S 34 0 3) 34 1 3) 34 2 3)) rfl in_X12 (by decide) wf_X12_13 rfl dX12_plainest_128 ?_
  refine z_aload_n b dX12_plainest_131 rfl rfl ?_
  refine z_iload b dX12_plainest_132 rfl ?_
  refine z_bipush (v := 6) b dX12_plainest_134 (by decide) ?_
  refine z_idiv (v := 5) b dX12_plainest_136 (by decide) (by decide) ?_
  refine z_iload b dX12_plainest_137 rfl ?_
  refine z_calli b (z_runV (q0 := 0) (As := [.int 5, .int 2]) (st := [.ref (a 1)]) b (c_X12_renamed_19 (su (su (su S 34 0 3) 34 1 3) 34 2 3) h_a_31_17) cf_X12_renamed (mw_0 cy a (su (su (su S 34 0 3) 34 1 3) 34 2 3)) rfl wm_X12_445 wi_X12_renamed ws_X12_renamed dX12_plainest_139 rfl (Nat.le_of_ble_eq_true rfl) ⟨by decide, by decide, by decide, by decide⟩) (fun r11574 u11575 h11573 => ?_)
  obtain ⟨rfl, rfl⟩ := h11573
  refine z_aload_n b dX12_plainest_142 rfl rfl ?_
  refine z_get (q0 := 0) (k9 := 59) (v := .ref (a 34)) b (mw_0 cy a (su (su (su S 34 0 3) 34 1 3) 34 2 3)) rfl in_X12 (by decide) wf_X12_119 rfl dX12_plainest_143 ?_
  refine z_iload b dX12_plainest_146 rfl ?_
  refine y_iald (q0 := 34) (j := 2) (v := (ar (su (su (su S 34 0 3) 34 1 3) 34 2 3) 32 2)) b (mw_34 cy a (su (su (su S 34 0 3) 34 1 3) 34 2 3)) (by decide) rfl dX12_plainest_148 ?_
  refine z_eqi h_a_32_2 ?_
  refine y_iast (q0 := 1) (j := 0) b (mw_1 cy a (su (su (su S 34 0 3) 34 1 3) 34 2 3)) (by decide) dX12_plainest_149 ((mwa_1 cy a (su (su (su S 34 0 3) 34 1 3) 34 2 3) 0 0).trans (congrArg (mw cy a) (su_same h_a_0_0))) ?_
  refine z_aload_n b dX12_plainest_150 rfl rfl ?_
  refine z_get (q0 := 0) (k9 := 2) (v := .ref (a 3)) b (mw_0 cy a (su (su (su S 34 0 3) 34 1 3) 34 2 3)) rfl in_X12 (by decide) wf_X12_20 rfl dX12_plainest_151 ?_
  refine z_aload_n b dX12_plainest_154 rfl rfl ?_
  refine z_iload b dX12_plainest_155 rfl ?_
  refine z_bipush (v := 6) b dX12_plainest_157 (by decide) ?_
  refine z_irem (v := 4) b dX12_plainest_159 (by decide) (by decide) ?_
  refine z_iload b dX12_plainest_160 rfl ?_
  refine z_calli b (z_runV (q0 := 0) (As := [.int 4, .int 2]) (st := [.ref (a 3)]) b (c_X12_renamed_16 (su (su (su S 34 0 3) 34 1 3) 34 2 3) h_a_31_14) cf_X12_renamed (mw_0 cy a (su (su (su S 34 0 3) 34 1 3) 34 2 3)) rfl wm_X12_445 wi_X12_renamed ws_X12_renamed dX12_plainest_162 rfl (Nat.le_of_ble_eq_true rfl) ⟨by decide, by decide, by decide, by decide⟩) (fun r11577 u11578 h11576 => ?_)
  obtain ⟨rfl, rfl⟩ := h11576
  refine z_aload_n b dX12_plainest_165 rfl rfl ?_
  refine z_iload b dX12_plainest_166 rfl ?_
  refine z_bipush (v := 6) b dX12_plainest_168 (by decide) ?_
  refine z_idiv (v := 5) b dX12_plainest_170 (by decide) (by decide) ?_
  refine z_aload_n b dX12_plainest_171 rfl rfl ?_
  refine z_get (q0 := 0) (k9 := 61) (v := .ref (a 36)) b (mw_0 cy a (su (su (su S 34 0 3) 34 1 3) 34 2 3)) rfl in_X12 (by decide) wf_X12_125 rfl dX12_plainest_172 ?_
  refine z_iload b dX12_plainest_175 rfl ?_
  refine y_iald (q0 := 36) (j := 2) (v := 3) b (mw_36 cy a (su (su (su S 34 0 3) 34 1 3) 34 2 3)) (by decide) rfl dX12_plainest_177 ?_
  refine z_calli b (z_runV (q0 := 0) (As := [.int 5, .int 3]) (st := [.int 1, .ref (a 3)]) b (c_X12_renamed_24 (su (su (su S 34 0 3) 34 1 3) 34 2 3) ) cf_X12_renamed (mw_0 cy a (su (su (su S 34 0 3) 34 1 3) 34 2 3)) rfl wm_X12_445 wi_X12_renamed ws_X12_renamed dX12_plainest_178 rfl (Nat.le_of_ble_eq_true rfl) ⟨by decide, by decide, by decide, by decide⟩) (fun r11580 u11581 h11579 => ?_)
  obtain ⟨rfl, rfl⟩ := h11579
  refine y_iast (q0 := 3) (j := 1) b (mw_3 cy a (su (su (su S 34 0 3) 34 1 3) 34 2 3)) (by decide) dX12_plainest_181 ((mwa_3 cy a (su (su (su S 34 0 3) 34 1 3) 34 2 3) 1 3).trans (congrArg (mw cy a) (su_same h_a_2_1))) ?_
  refine z_iconst (v := 0) b dX12_plainest_182 (by decide) ?_
  refine z_istore (lv' := [(7, .int 0), (6, .int 2), (8, .int 3), (5, .int 34), (3, .long 1649317774848), (0, .ref (a 0)), (1, .long 1649317774848)]) b dX12_plainest_183 (by decide) rfl ?_
  refine z_iload b dX12_plainest_185 rfl ?_
  refine z_iconst (v := 3) b dX12_plainest_187 (by decide) ?_
  refine z_icmp_ge_f (tgt := 281) b dX12_plainest_188 (by decide) (by decide) ?_
  refine z_iconst (v := 3) b dX12_plainest_191 (by decide) ?_
  refine z_aload_n b dX12_plainest_192 rfl rfl ?_
  refine z_iload b dX12_plainest_193 rfl ?_
  refine z_bipush (v := 6) b dX12_plainest_195 (by decide) ?_
  refine z_idiv (v := 5) b dX12_plainest_197 (by decide) (by decide) ?_
  refine z_iload b dX12_plainest_198 rfl ?_
  refine z_calli b (z_runV (q0 := 0) (As := [.int 5, .int 2]) (st := [.int 3]) b (c_X12_renamed_19 (su (su (su S 34 0 3) 34 1 3) 34 2 3) h_a_31_17) cf_X12_renamed (mw_0 cy a (su (su (su S 34 0 3) 34 1 3) 34 2 3)) rfl wm_X12_445 wi_X12_renamed ws_X12_renamed dX12_plainest_200 rfl (Nat.le_of_ble_eq_true rfl) ⟨by decide, by decide, by decide, by decide⟩) (fun r11583 u11584 h11582 => ?_)
  obtain ⟨rfl, rfl⟩ := h11582
  refine z_imul (v := 0) b dX12_plainest_203 (by decide) ?_
  refine z_aload_n b dX12_plainest_204 rfl rfl ?_
  refine z_iload b dX12_plainest_205 rfl ?_
  refine z_bipush (v := 6) b dX12_plainest_207 (by decide) ?_
  refine z_idiv (v := 5) b dX12_plainest_209 (by decide) (by decide) ?_
  refine z_iload b dX12_plainest_210 rfl ?_
  refine z_calli b (z_runV (q0 := 0) (As := [.int 5, .int 0]) (st := [.int 0]) b (c_X12_renamed_17 (su (su (su S 34 0 3) 34 1 3) 34 2 3) h_a_31_15) cf_X12_renamed (mw_0 cy a (su (su (su S 34 0 3) 34 1 3) 34 2 3)) rfl wm_X12_445 wi_X12_renamed ws_X12_renamed dX12_plainest_212 rfl (Nat.le_of_ble_eq_true rfl) ⟨by decide, by decide, by decide, by decide⟩) (fun r11586 u11587 h11585 => ?_)
  obtain ⟨rfl, rfl⟩ := h11585
  refine z_iadd (v := 2) b dX12_plainest_215 (by decide) ?_
  refine z_istore (lv' := [(8, .int 2), (7, .int 0), (6, .int 2), (5, .int 34), (3, .long 1649317774848), (0, .ref (a 0)), (1, .long 1649317774848)]) b dX12_plainest_216 (by decide) rfl ?_
  refine z_aload_n b dX12_plainest_218 rfl rfl ?_
  refine z_get (q0 := 0) (k9 := 1) (v := .ref (a 2)) b (mw_0 cy a (su (su (su S 34 0 3) 34 1 3) 34 2 3)) rfl in_X12 (by decide) wf_X12_17 rfl dX12_plainest_219 ?_
  refine z_iload b dX12_plainest_222 rfl ?_
  refine z_aload_n b dX12_plainest_224 rfl rfl ?_
  refine z_get (q0 := 0) (k9 := 60) (v := .ref (a 35)) b (mw_0 cy a (su (su (su S 34 0 3) 34 1 3) 34 2 3)) rfl in_X12 (by decide) wf_X12_122 rfl dX12_plainest_225 ?_
  refine z_iconst (v := 3) b dX12_plainest_228 (by decide) ?_
  refine z_iload b dX12_plainest_229 rfl ?_
  refine z_imul (v := 6) b dX12_plainest_231 (by decide) ?_
  refine z_iload b dX12_plainest_232 rfl ?_
  refine z_iadd (v := 6) b dX12_plainest_234 (by decide) ?_
  refine y_iald (q0 := 35) (j := 6) (v := (ar (su (su (su S 34 0 3) 34 1 3) 34 2 3) 33 6)) b (mw_35 cy a (su (su (su S 34 0 3) 34 1 3) 34 2 3)) (by decide) rfl dX12_plainest_235 ?_
  refine z_eqi h_a_33_6 ?_
  refine y_iast (q0 := 2) (j := 2) b (mw_2 cy a (su (su (su S 34 0 3) 34 1 3) 34 2 3)) (by decide) dX12_plainest_236 ((mwa_2 cy a (su (su (su S 34 0 3) 34 1 3) 34 2 3) 2 0).trans (congrArg (mw cy a) (su_same h_a_1_2))) ?_
  refine z_aload_n b dX12_plainest_237 rfl rfl ?_
  refine z_get (q0 := 0) (k9 := 3) (v := .ref (a 4)) b (mw_0 cy a (su (su (su S 34 0 3) 34 1 3) 34 2 3)) rfl in_X12 (by decide) wf_X12_23 rfl dX12_plainest_238 ?_
  refine z_iload b dX12_plainest_241 rfl ?_
  refine z_aload_n b dX12_plainest_243 rfl rfl ?_
  refine z_get (q0 := 0) (k9 := 62) (v := .ref (a 37)) b (mw_0 cy a (su (su (su S 34 0 3) 34 1 3) 34 2 3)) rfl in_X12 (by decide) wf_X12_128 rfl dX12_plainest_244 ?_
  refine z_iconst (v := 3) b dX12_plainest_247 (by decide) ?_
  refine z_iload b dX12_plainest_248 rfl ?_
  refine z_imul (v := 6) b dX12_plainest_250 (by decide) ?_
  refine z_iload b dX12_plainest_251 rfl ?_
  refine z_iadd (v := 6) b dX12_plainest_253 (by decide) ?_
  refine y_zald (q0 := 37) (j := 6) (v := (ar (su (su (su S 34 0 3) 34 1 3) 34 2 3) 35 6)) b (mw_37 cy a (su (su (su S 34 0 3) 34 1 3) 34 2 3)) (by decide) rfl dX12_plainest_254 ?_
  refine z_eqi h_a_35_6 ?_
  refine y_zast (q0 := 4) (j := 2) b (mw_4 cy a (su (su (su S 34 0 3) 34 1 3) 34 2 3)) (by decide) (by decide) dX12_plainest_255 ((mwa_4 cy a (su (su (su S 34 0 3) 34 1 3) 34 2 3) 2 0).trans (congrArg (mw cy a) (su_same h_a_3_2))) ?_
  refine z_aload_n b dX12_plainest_256 rfl rfl ?_
  refine z_get (q0 := 0) (k9 := 4) (v := .ref (a 5)) b (mw_0 cy a (su (su (su S 34 0 3) 34 1 3) 34 2 3)) rfl in_X12 (by decide) wf_X12_27 rfl dX12_plainest_257 ?_
  refine z_iload b dX12_plainest_260 rfl ?_
  refine z_aload_n b dX12_plainest_262 rfl rfl ?_
  refine z_get (q0 := 0) (k9 := 63) (v := .ref (a 38)) b (mw_0 cy a (su (su (su S 34 0 3) 34 1 3) 34 2 3)) rfl in_X12 (by decide) wf_X12_131 rfl dX12_plainest_263 ?_
  refine z_iconst (v := 3) b dX12_plainest_266 (by decide) ?_
  refine z_iload b dX12_plainest_267 rfl ?_
  refine z_imul (v := 6) b dX12_plainest_269 (by decide) ?_
  refine z_iload b dX12_plainest_270 rfl ?_
  refine z_iadd (v := 6) b dX12_plainest_272 (by decide) ?_
  refine y_zald (q0 := 38) (j := 6) (v := (ar (su (su (su S 34 0 3) 34 1 3) 34 2 3) 36 6)) b (mw_38 cy a (su (su (su S 34 0 3) 34 1 3) 34 2 3)) (by decide) rfl dX12_plainest_273 ?_
  refine z_eqi h_a_36_6 ?_
  refine y_zast (q0 := 5) (j := 2) b (mw_5 cy a (su (su (su S 34 0 3) 34 1 3) 34 2 3)) (by decide) (by decide) dX12_plainest_274 ((mwa_5 cy a (su (su (su S 34 0 3) 34 1 3) 34 2 3) 2 0).trans (congrArg (mw cy a) (su_same h_a_4_2))) ?_
  refine z_iinc (k9 := 1) (v := 1) (lv' := [(7, .int 1), (8, .int 2), (6, .int 2), (5, .int 34), (3, .long 1649317774848), (0, .ref (a 0)), (1, .long 1649317774848)]) b dX12_plainest_275 rfl (by decide) (by decide) rfl ?_
  refine z_goto (tgt := 185) b dX12_plainest_278 (by decide) ?_
  refine z_iload b dX12_plainest_185 rfl ?_
  refine z_iconst (v := 3) b dX12_plainest_187 (by decide) ?_
  refine z_icmp_ge_f (tgt := 281) b dX12_plainest_188 (by decide) (by decide) ?_
  refine z_iconst (v := 3) b dX12_plainest_191 (by decide) ?_
  refine z_aload_n b dX12_plainest_192 rfl rfl ?_
  refine z_iload b dX12_plainest_193 rfl ?_
  refine z_bipush (v := 6) b dX12_plainest_195 (by decide) ?_
  refine z_idiv (v := 5) b dX12_plainest_197 (by decide) (by decide) ?_
  refine z_iload b dX12_plainest_198 rfl ?_
  refine z_calli b (z_runV (q0 := 0) (As := [.int 5, .int 2]) (st := [.int 3]) b (c_X12_renamed_19 (su (su (su S 34 0 3) 34 1 3) 34 2 3) h_a_31_17) cf_X12_renamed (mw_0 cy a (su (su (su S 34 0 3) 34 1 3) 34 2 3)) rfl wm_X12_445 wi_X12_renamed ws_X12_renamed dX12_plainest_200 rfl (Nat.le_of_ble_eq_true rfl) ⟨by decide, by decide, by decide, by decide⟩) (fun r11589 u11590 h11588 => ?_)
  obtain ⟨rfl, rfl⟩ := h11588
  refine z_imul (v := 0) b dX12_plainest_203 (by decide) ?_
  refine z_aload_n b dX12_plainest_204 rfl rfl ?_
  refine z_iload b dX12_plainest_205 rfl ?_
  refine z_bipush (v := 6) b dX12_plainest_207 (by decide) ?_
  refine z_idiv (v := 5) b dX12_plainest_209 (by decide) (by decide) ?_
  refine z_iload b dX12_plainest_210 rfl ?_
  refine z_calli b (z_runV (q0 := 0) (As := [.int 5, .int 1]) (st := [.int 0]) b (c_X12_renamed_18 (su (su (su S 34 0 3) 34 1 3) 34 2 3) h_a_31_16) cf_X12_renamed (mw_0 cy a (su (su (su S 34 0 3) 34 1 3) 34 2 3)) rfl wm_X12_445 wi_X12_renamed ws_X12_renamed dX12_plainest_212 rfl (Nat.le_of_ble_eq_true rfl) ⟨by decide, by decide, by decide, by decide⟩) (fun r11592 u11593 h11591 => ?_)
  obtain ⟨rfl, rfl⟩ := h11591
  refine z_iadd (v := 1) b dX12_plainest_215 (by decide) ?_
  refine z_istore (lv' := [(8, .int 1), (7, .int 1), (6, .int 2), (5, .int 34), (3, .long 1649317774848), (0, .ref (a 0)), (1, .long 1649317774848)]) b dX12_plainest_216 (by decide) rfl ?_
  refine z_aload_n b dX12_plainest_218 rfl rfl ?_
  refine z_get (q0 := 0) (k9 := 1) (v := .ref (a 2)) b (mw_0 cy a (su (su (su S 34 0 3) 34 1 3) 34 2 3)) rfl in_X12 (by decide) wf_X12_17 rfl dX12_plainest_219 ?_
  refine z_iload b dX12_plainest_222 rfl ?_
  refine z_aload_n b dX12_plainest_224 rfl rfl ?_
  refine z_get (q0 := 0) (k9 := 60) (v := .ref (a 35)) b (mw_0 cy a (su (su (su S 34 0 3) 34 1 3) 34 2 3)) rfl in_X12 (by decide) wf_X12_122 rfl dX12_plainest_225 ?_
  refine z_iconst (v := 3) b dX12_plainest_228 (by decide) ?_
  refine z_iload b dX12_plainest_229 rfl ?_
  refine z_imul (v := 6) b dX12_plainest_231 (by decide) ?_
  refine z_iload b dX12_plainest_232 rfl ?_
  refine z_iadd (v := 7) b dX12_plainest_234 (by decide) ?_
  refine y_iald (q0 := 35) (j := 7) (v := (ar (su (su (su S 34 0 3) 34 1 3) 34 2 3) 33 7)) b (mw_35 cy a (su (su (su S 34 0 3) 34 1 3) 34 2 3)) (by decide) rfl dX12_plainest_235 ?_
  refine z_eqi h_a_33_7 ?_
  refine y_iast (q0 := 2) (j := 1) b (mw_2 cy a (su (su (su S 34 0 3) 34 1 3) 34 2 3)) (by decide) dX12_plainest_236 ((mwa_2 cy a (su (su (su S 34 0 3) 34 1 3) 34 2 3) 1 0).trans (congrArg (mw cy a) (su_same h_a_1_1))) ?_
  refine z_aload_n b dX12_plainest_237 rfl rfl ?_
  refine z_get (q0 := 0) (k9 := 3) (v := .ref (a 4)) b (mw_0 cy a (su (su (su S 34 0 3) 34 1 3) 34 2 3)) rfl in_X12 (by decide) wf_X12_23 rfl dX12_plainest_238 ?_
  refine z_iload b dX12_plainest_241 rfl ?_
  refine z_aload_n b dX12_plainest_243 rfl rfl ?_
  refine z_get (q0 := 0) (k9 := 62) (v := .ref (a 37)) b (mw_0 cy a (su (su (su S 34 0 3) 34 1 3) 34 2 3)) rfl in_X12 (by decide) wf_X12_128 rfl dX12_plainest_244 ?_
  refine z_iconst (v := 3) b dX12_plainest_247 (by decide) ?_
  refine z_iload b dX12_plainest_248 rfl ?_
  refine z_imul (v := 6) b dX12_plainest_250 (by decide) ?_
  refine z_iload b dX12_plainest_251 rfl ?_
  refine z_iadd (v := 7) b dX12_plainest_253 (by decide) ?_
  refine y_zald (q0 := 37) (j := 7) (v := (ar (su (su (su S 34 0 3) 34 1 3) 34 2 3) 35 7)) b (mw_37 cy a (su (su (su S 34 0 3) 34 1 3) 34 2 3)) (by decide) rfl dX12_plainest_254 ?_
  refine z_eqi h_a_35_7 ?_
  exact k

set_option maxHeartbeats 4000000 in
set_option maxRecDepth 100000 in
theorem ch_X12_plainest_342 {p : Program} {l : Launch} {e : Env} {R : Room} {s : State} {m : MethodId} {args : Array Value} {below : List Frame} {meth : Method} {c : Code} {D : va_G} {cy : Nat → ClassId} {T0 tB tE : Nat} {A : Nat → Prop} {Q : State → Prop} {a : Nat → Nat} (S : GS)  (h_a_0_0 : ar S 0 0 = 0) (h_a_0_1 : ar S 0 1 = 0) (h_a_0_2 : ar S 0 2 = 0) (h_a_1_0 : ar S 1 0 = 0) (h_a_1_1 : ar S 1 1 = 0) (h_a_1_2 : ar S 1 2 = 0) (h_a_1_3 : ar S 1 3 = 0) (h_a_1_5 : ar S 1 5 = 0) (h_a_1_6 : ar S 1 6 = 0) (h_a_1_7 : ar S 1 7 = 0) (h_a_2_0 : ar S 2 0 = 3) (h_a_2_1 : ar S 2 1 = 3) (h_a_2_2 : ar S 2 2 = 3) (h_a_31_15 : ar S 31 15 = 2) (h_a_31_17 : ar S 31 17 = 0) (h_a_32_0 : ar S 32 0 = 0) (h_a_33_8 : ar S 33 8 = 0) (h_a_35_8 : ar S 35 8 = 0) (h_a_36_7 : ar S 36 7 = 0) (h_a_36_8 : ar S 36 8 = 0) (h_a_3_0 : ar S 3 0 = 0) (h_a_3_1 : ar S 3 1 = 0) (h_a_3_5 : ar S 3 5 = 0) (h_a_3_6 : ar S 3 6 = 0) (h_a_4_0 : ar S 4 0 = 0) (h_a_4_1 : ar S 4 1 = 0) (h_a_4_2 : ar S 4 2 = 0) (h_a_4_3 : ar S 4 3 = 0) (h_a_4_5 : ar S 4 5 = 0) (h_a_4_6 : ar S 4 6 = 0) (h_a_4_7 : ar S 4 7 = 0) (h_i_0 : fi S 0 = 0) (b : Bz p R s m args meth c D cy T0 tB tE A 9 cX12_plainest RX12 (some .long) "plainest" 2 47 0 0) (k : Z p l e R s m args below meth c D A 9 Q 0 0 (mw cy a (su (su (su S 34 0 3) 34 1 3) 34 2 3)) [(7, .int 0), (6, .int 0), (5, .int 35), (3, .long 1649317774848), (8, .int 0), (0, .ref (a 0)), (1, .long 1649317774848)] 198 [.int 5, .ref (a 0), .int 3]) : Z p l e R s m args below meth c D A 9 Q 0 0 (mw cy a (su (su (su S 34 0 3) 34 1 3) 34 2 3)) [(8, .int 1), (7, .int 1), (6, .int 2), (5, .int 34), (3, .long 1649317774848), (0, .ref (a 0)), (1, .long 1649317774848)] 255 [.int 0, .int 1, .ref (a 4)] := by
  refine y_zast (q0 := 4) (j := 1) b (mw_4 cy a (su (su (su S 34 0 3) 34 1 3) 34 2 3)) (by decide) (by decide) dX12_plainest_255 ((mwa_4 cy a (su (su (su S 34 0 3) 34 1 3) 34 2 3) 1 0).trans (congrArg (mw cy a) (su_same h_a_3_1))) ?_
  refine z_aload_n b dX12_plainest_256 rfl rfl ?_
  refine z_get (q0 := 0) (k9 := 4) (v := .ref (a 5)) b (mw_0 cy a (su (su (su S 34 0 3) 34 1 3) 34 2 3)) rfl in_X12 (by decide) wf_X12_27 rfl dX12_plainest_257 ?_
  refine z_iload b dX12_plainest_260 rfl ?_
  refine z_aload_n b dX12_plainest_262 rfl rfl ?_
  refine z_get (q0 := 0) (k9 := 63) (v := .ref (a 38)) b (mw_0 cy a (su (su (su S 34 0 3) 34 1 3) 34 2 3)) rfl in_X12 (by decide) wf_X12_131 rfl dX12_plainest_263 ?_
  refine z_iconst (v := 3) b dX12_plainest_266 (by decide) ?_
  refine z_iload b dX12_plainest_267 rfl ?_
  refine z_imul (v := 6) b dX12_plainest_269 (by decide) ?_
  refine z_iload b dX12_plainest_270 rfl ?_
  refine z_iadd (v := 7) b dX12_plainest_272 (by decide) ?_
  refine y_zald (q0 := 38) (j := 7) (v := (ar (su (su (su S 34 0 3) 34 1 3) 34 2 3) 36 7)) b (mw_38 cy a (su (su (su S 34 0 3) 34 1 3) 34 2 3)) (by decide) rfl dX12_plainest_273 ?_
  refine z_eqi h_a_36_7 ?_
  refine y_zast (q0 := 5) (j := 1) b (mw_5 cy a (su (su (su S 34 0 3) 34 1 3) 34 2 3)) (by decide) (by decide) dX12_plainest_274 ((mwa_5 cy a (su (su (su S 34 0 3) 34 1 3) 34 2 3) 1 0).trans (congrArg (mw cy a) (su_same h_a_4_1))) ?_
  refine z_iinc (k9 := 1) (v := 2) (lv' := [(7, .int 2), (8, .int 1), (6, .int 2), (5, .int 34), (3, .long 1649317774848), (0, .ref (a 0)), (1, .long 1649317774848)]) b dX12_plainest_275 rfl (by decide) (by decide) rfl ?_
  refine z_goto (tgt := 185) b dX12_plainest_278 (by decide) ?_
  refine z_iload b dX12_plainest_185 rfl ?_
  refine z_iconst (v := 3) b dX12_plainest_187 (by decide) ?_
  refine z_icmp_ge_f (tgt := 281) b dX12_plainest_188 (by decide) (by decide) ?_
  refine z_iconst (v := 3) b dX12_plainest_191 (by decide) ?_
  refine z_aload_n b dX12_plainest_192 rfl rfl ?_
  refine z_iload b dX12_plainest_193 rfl ?_
  refine z_bipush (v := 6) b dX12_plainest_195 (by decide) ?_
  refine z_idiv (v := 5) b dX12_plainest_197 (by decide) (by decide) ?_
  refine z_iload b dX12_plainest_198 rfl ?_
  refine z_calli b (z_runV (q0 := 0) (As := [.int 5, .int 2]) (st := [.int 3]) b (c_X12_renamed_19 (su (su (su S 34 0 3) 34 1 3) 34 2 3) h_a_31_17) cf_X12_renamed (mw_0 cy a (su (su (su S 34 0 3) 34 1 3) 34 2 3)) rfl wm_X12_445 wi_X12_renamed ws_X12_renamed dX12_plainest_200 rfl (Nat.le_of_ble_eq_true rfl) ⟨by decide, by decide, by decide, by decide⟩) (fun r11595 u11596 h11594 => ?_)
  obtain ⟨rfl, rfl⟩ := h11594
  refine z_imul (v := 0) b dX12_plainest_203 (by decide) ?_
  refine z_aload_n b dX12_plainest_204 rfl rfl ?_
  refine z_iload b dX12_plainest_205 rfl ?_
  refine z_bipush (v := 6) b dX12_plainest_207 (by decide) ?_
  refine z_idiv (v := 5) b dX12_plainest_209 (by decide) (by decide) ?_
  refine z_iload b dX12_plainest_210 rfl ?_
  refine z_calli b (z_runV (q0 := 0) (As := [.int 5, .int 2]) (st := [.int 0]) b (c_X12_renamed_19 (su (su (su S 34 0 3) 34 1 3) 34 2 3) h_a_31_17) cf_X12_renamed (mw_0 cy a (su (su (su S 34 0 3) 34 1 3) 34 2 3)) rfl wm_X12_445 wi_X12_renamed ws_X12_renamed dX12_plainest_212 rfl (Nat.le_of_ble_eq_true rfl) ⟨by decide, by decide, by decide, by decide⟩) (fun r11598 u11599 h11597 => ?_)
  obtain ⟨rfl, rfl⟩ := h11597
  refine z_iadd (v := 0) b dX12_plainest_215 (by decide) ?_
  refine z_istore (lv' := [(8, .int 0), (7, .int 2), (6, .int 2), (5, .int 34), (3, .long 1649317774848), (0, .ref (a 0)), (1, .long 1649317774848)]) b dX12_plainest_216 (by decide) rfl ?_
  refine z_aload_n b dX12_plainest_218 rfl rfl ?_
  refine z_get (q0 := 0) (k9 := 1) (v := .ref (a 2)) b (mw_0 cy a (su (su (su S 34 0 3) 34 1 3) 34 2 3)) rfl in_X12 (by decide) wf_X12_17 rfl dX12_plainest_219 ?_
  refine z_iload b dX12_plainest_222 rfl ?_
  refine z_aload_n b dX12_plainest_224 rfl rfl ?_
  refine z_get (q0 := 0) (k9 := 60) (v := .ref (a 35)) b (mw_0 cy a (su (su (su S 34 0 3) 34 1 3) 34 2 3)) rfl in_X12 (by decide) wf_X12_122 rfl dX12_plainest_225 ?_
  refine z_iconst (v := 3) b dX12_plainest_228 (by decide) ?_
  refine z_iload b dX12_plainest_229 rfl ?_
  refine z_imul (v := 6) b dX12_plainest_231 (by decide) ?_
  refine z_iload b dX12_plainest_232 rfl ?_
  refine z_iadd (v := 8) b dX12_plainest_234 (by decide) ?_
  refine y_iald (q0 := 35) (j := 8) (v := (ar (su (su (su S 34 0 3) 34 1 3) 34 2 3) 33 8)) b (mw_35 cy a (su (su (su S 34 0 3) 34 1 3) 34 2 3)) (by decide) rfl dX12_plainest_235 ?_
  refine z_eqi h_a_33_8 ?_
  refine y_iast (q0 := 2) (j := 0) b (mw_2 cy a (su (su (su S 34 0 3) 34 1 3) 34 2 3)) (by decide) dX12_plainest_236 ((mwa_2 cy a (su (su (su S 34 0 3) 34 1 3) 34 2 3) 0 0).trans (congrArg (mw cy a) (su_same h_a_1_0))) ?_
  refine z_aload_n b dX12_plainest_237 rfl rfl ?_
  refine z_get (q0 := 0) (k9 := 3) (v := .ref (a 4)) b (mw_0 cy a (su (su (su S 34 0 3) 34 1 3) 34 2 3)) rfl in_X12 (by decide) wf_X12_23 rfl dX12_plainest_238 ?_
  refine z_iload b dX12_plainest_241 rfl ?_
  refine z_aload_n b dX12_plainest_243 rfl rfl ?_
  refine z_get (q0 := 0) (k9 := 62) (v := .ref (a 37)) b (mw_0 cy a (su (su (su S 34 0 3) 34 1 3) 34 2 3)) rfl in_X12 (by decide) wf_X12_128 rfl dX12_plainest_244 ?_
  refine z_iconst (v := 3) b dX12_plainest_247 (by decide) ?_
  refine z_iload b dX12_plainest_248 rfl ?_
  refine z_imul (v := 6) b dX12_plainest_250 (by decide) ?_
  refine z_iload b dX12_plainest_251 rfl ?_
  refine z_iadd (v := 8) b dX12_plainest_253 (by decide) ?_
  refine y_zald (q0 := 37) (j := 8) (v := (ar (su (su (su S 34 0 3) 34 1 3) 34 2 3) 35 8)) b (mw_37 cy a (su (su (su S 34 0 3) 34 1 3) 34 2 3)) (by decide) rfl dX12_plainest_254 ?_
  refine z_eqi h_a_35_8 ?_
  refine y_zast (q0 := 4) (j := 0) b (mw_4 cy a (su (su (su S 34 0 3) 34 1 3) 34 2 3)) (by decide) (by decide) dX12_plainest_255 ((mwa_4 cy a (su (su (su S 34 0 3) 34 1 3) 34 2 3) 0 0).trans (congrArg (mw cy a) (su_same h_a_3_0))) ?_
  refine z_aload_n b dX12_plainest_256 rfl rfl ?_
  refine z_get (q0 := 0) (k9 := 4) (v := .ref (a 5)) b (mw_0 cy a (su (su (su S 34 0 3) 34 1 3) 34 2 3)) rfl in_X12 (by decide) wf_X12_27 rfl dX12_plainest_257 ?_
  refine z_iload b dX12_plainest_260 rfl ?_
  refine z_aload_n b dX12_plainest_262 rfl rfl ?_
  refine z_get (q0 := 0) (k9 := 63) (v := .ref (a 38)) b (mw_0 cy a (su (su (su S 34 0 3) 34 1 3) 34 2 3)) rfl in_X12 (by decide) wf_X12_131 rfl dX12_plainest_263 ?_
  refine z_iconst (v := 3) b dX12_plainest_266 (by decide) ?_
  refine z_iload b dX12_plainest_267 rfl ?_
  refine z_imul (v := 6) b dX12_plainest_269 (by decide) ?_
  refine z_iload b dX12_plainest_270 rfl ?_
  refine z_iadd (v := 8) b dX12_plainest_272 (by decide) ?_
  refine y_zald (q0 := 38) (j := 8) (v := (ar (su (su (su S 34 0 3) 34 1 3) 34 2 3) 36 8)) b (mw_38 cy a (su (su (su S 34 0 3) 34 1 3) 34 2 3)) (by decide) rfl dX12_plainest_273 ?_
  refine z_eqi h_a_36_8 ?_
  refine y_zast (q0 := 5) (j := 0) b (mw_5 cy a (su (su (su S 34 0 3) 34 1 3) 34 2 3)) (by decide) (by decide) dX12_plainest_274 ((mwa_5 cy a (su (su (su S 34 0 3) 34 1 3) 34 2 3) 0 0).trans (congrArg (mw cy a) (su_same h_a_4_0))) ?_
  refine z_iinc (k9 := 1) (v := 3) (lv' := [(7, .int 3), (8, .int 0), (6, .int 2), (5, .int 34), (3, .long 1649317774848), (0, .ref (a 0)), (1, .long 1649317774848)]) b dX12_plainest_275 rfl (by decide) (by decide) rfl ?_
  refine z_goto (tgt := 185) b dX12_plainest_278 (by decide) ?_
  refine z_iload b dX12_plainest_185 rfl ?_
  refine z_iconst (v := 3) b dX12_plainest_187 (by decide) ?_
  refine z_icmp_ge_t (tgt := 281) b dX12_plainest_188 (by decide) (by decide) ?_
  refine z_iinc (k9 := 2) (v := 3) (lv' := [(6, .int 3), (7, .int 3), (8, .int 0), (5, .int 34), (3, .long 1649317774848), (0, .ref (a 0)), (1, .long 1649317774848)]) b dX12_plainest_281 rfl (by decide) (by decide) rfl ?_
  refine z_goto (tgt := 121) b dX12_plainest_284 (by decide) ?_
  refine z_iload b dX12_plainest_121 rfl ?_
  refine z_iconst (v := 3) b dX12_plainest_123 (by decide) ?_
  refine z_icmp_ge_t (tgt := 287) b dX12_plainest_124 (by decide) (by decide) ?_
  refine z_aload_n b dX12_plainest_287 rfl rfl ?_
  refine z_calll b (z_runV (q0 := 0) (As := []) (st := []) b (c_X12_packs_14 (su (su (su S 34 0 3) 34 1 3) 34 2 3) h_i_0 h_a_0_0 h_a_2_0 h_a_3_1 h_a_1_1 h_a_4_1 h_a_1_2 h_a_4_2 h_a_0_1 h_a_2_1 h_a_3_5 h_a_1_5 h_a_4_5 h_a_1_3 h_a_4_3 h_a_0_2 h_a_2_2 h_a_3_6 h_a_1_6 h_a_4_6 h_a_1_7 h_a_4_7) cf_X12_packs (mw_0 cy a (su (su (su S 34 0 3) 34 1 3) 34 2 3)) rfl wm_X12_149 wi_X12_packs ws_X12_packs dX12_plainest_288 rfl (Nat.le_of_ble_eq_true rfl) ⟨by decide, by decide, by decide, by decide⟩) (fun r11601 u11602 h11600 => ?_)
  obtain ⟨rfl, rfl⟩ := h11600
  refine z_lstore (lv' := [(6, .long 1649317774848), (8, .int 0), (5, .int 34), (3, .long 1649317774848), (0, .ref (a 0)), (1, .long 1649317774848)]) b dX12_plainest_291 (by decide) rfl ?_
  refine z_lload b dX12_plainest_293 rfl ?_
  refine z_lload_n b dX12_plainest_295 rfl rfl ?_
  refine z_lcmp (v := 0) b dX12_plainest_296 (by decide) ?_
  refine z_if_ge_t (tgt := 305) b dX12_plainest_297 (by decide) (by decide) ?_
  refine z_lload_n b dX12_plainest_305 rfl rfl ?_
  refine z_lstore_n (lv' := [(3, .long 1649317774848), (6, .long 1649317774848), (8, .int 0), (5, .int 34), (0, .ref (a 0)), (1, .long 1649317774848)]) b dX12_plainest_306 rfl (by decide) rfl ?_
  refine z_iinc (k9 := 3) (v := 35) (lv' := [(5, .int 35), (3, .long 1649317774848), (6, .long 1649317774848), (8, .int 0), (0, .ref (a 0)), (1, .long 1649317774848)]) b dX12_plainest_307 rfl (by decide) (by decide) rfl ?_
  refine z_goto (tgt := 111) b dX12_plainest_310 (by decide) ?_
  refine z_iload b dX12_plainest_111 rfl ?_
  refine z_bipush (v := 36) b dX12_plainest_113 (by decide) ?_
  refine z_icmp_ge_f (tgt := 313) b dX12_plainest_115 (by decide) (by decide) ?_
  refine z_iconst (v := 0) b dX12_plainest_118 (by decide) ?_
  refine z_istore (lv' := [(6, .int 0), (5, .int 35), (3, .long 1649317774848), (8, .int 0), (0, .ref (a 0)), (1, .long 1649317774848)]) b dX12_plainest_119 (by decide) rfl ?_
  refine z_iload b dX12_plainest_121 rfl ?_
  refine z_iconst (v := 3) b dX12_plainest_123 (by decide) ?_
  refine z_icmp_ge_f (tgt := 287) b dX12_plainest_124 (by decide) (by decide) ?_
  refine z_aload_n b dX12_plainest_127 rfl rfl ?_
  refine z_get (q0 := 0) (k9 := 0) (v := .ref (a 1)) b (mw_0 cy a (su (su (su S 34 0 3) 34 1 3) 34 2 3)) rfl in_X12 (by decide) wf_X12_13 rfl dX12_plainest_128 ?_
  refine z_aload_n b dX12_plainest_131 rfl rfl ?_
  refine z_iload b dX12_plainest_132 rfl ?_
  refine z_bipush (v := 6) b dX12_plainest_134 (by decide) ?_
  refine z_idiv (v := 5) b dX12_plainest_136 (by decide) (by decide) ?_
  refine z_iload b dX12_plainest_137 rfl ?_
  refine z_calli b (z_runV (q0 := 0) (As := [.int 5, .int 0]) (st := [.ref (a 1)]) b (c_X12_renamed_17 (su (su (su S 34 0 3) 34 1 3) 34 2 3) h_a_31_15) cf_X12_renamed (mw_0 cy a (su (su (su S 34 0 3) 34 1 3) 34 2 3)) rfl wm_X12_445 wi_X12_renamed ws_X12_renamed dX12_plainest_139 rfl (Nat.le_of_ble_eq_true rfl) ⟨by decide, by decide, by decide, by decide⟩) (fun r11604 u11605 h11603 => ?_)
  obtain ⟨rfl, rfl⟩ := h11603
  refine z_aload_n b dX12_plainest_142 rfl rfl ?_
  refine z_get (q0 := 0) (k9 := 59) (v := .ref (a 34)) b (mw_0 cy a (su (su (su S 34 0 3) 34 1 3) 34 2 3)) rfl in_X12 (by decide) wf_X12_119 rfl dX12_plainest_143 ?_
  refine z_iload b dX12_plainest_146 rfl ?_
  refine y_iald (q0 := 34) (j := 0) (v := (ar (su (su (su S 34 0 3) 34 1 3) 34 2 3) 32 0)) b (mw_34 cy a (su (su (su S 34 0 3) 34 1 3) 34 2 3)) (by decide) rfl dX12_plainest_148 ?_
  refine z_eqi h_a_32_0 ?_
  refine y_iast (q0 := 1) (j := 2) b (mw_1 cy a (su (su (su S 34 0 3) 34 1 3) 34 2 3)) (by decide) dX12_plainest_149 ((mwa_1 cy a (su (su (su S 34 0 3) 34 1 3) 34 2 3) 2 0).trans (congrArg (mw cy a) (su_same h_a_0_2))) ?_
  refine z_aload_n b dX12_plainest_150 rfl rfl ?_
  refine z_get (q0 := 0) (k9 := 2) (v := .ref (a 3)) b (mw_0 cy a (su (su (su S 34 0 3) 34 1 3) 34 2 3)) rfl in_X12 (by decide) wf_X12_20 rfl dX12_plainest_151 ?_
  refine z_aload_n b dX12_plainest_154 rfl rfl ?_
  refine z_iload b dX12_plainest_155 rfl ?_
  refine z_bipush (v := 6) b dX12_plainest_157 (by decide) ?_
  refine z_irem (v := 5) b dX12_plainest_159 (by decide) (by decide) ?_
  refine z_iload b dX12_plainest_160 rfl ?_
  refine z_calli b (z_runV (q0 := 0) (As := [.int 5, .int 0]) (st := [.ref (a 3)]) b (c_X12_renamed_17 (su (su (su S 34 0 3) 34 1 3) 34 2 3) h_a_31_15) cf_X12_renamed (mw_0 cy a (su (su (su S 34 0 3) 34 1 3) 34 2 3)) rfl wm_X12_445 wi_X12_renamed ws_X12_renamed dX12_plainest_162 rfl (Nat.le_of_ble_eq_true rfl) ⟨by decide, by decide, by decide, by decide⟩) (fun r11607 u11608 h11606 => ?_)
  obtain ⟨rfl, rfl⟩ := h11606
  refine z_aload_n b dX12_plainest_165 rfl rfl ?_
  refine z_iload b dX12_plainest_166 rfl ?_
  refine z_bipush (v := 6) b dX12_plainest_168 (by decide) ?_
  refine z_idiv (v := 5) b dX12_plainest_170 (by decide) (by decide) ?_
  refine z_aload_n b dX12_plainest_171 rfl rfl ?_
  refine z_get (q0 := 0) (k9 := 61) (v := .ref (a 36)) b (mw_0 cy a (su (su (su S 34 0 3) 34 1 3) 34 2 3)) rfl in_X12 (by decide) wf_X12_125 rfl dX12_plainest_172 ?_
  refine z_iload b dX12_plainest_175 rfl ?_
  refine y_iald (q0 := 36) (j := 0) (v := 3) b (mw_36 cy a (su (su (su S 34 0 3) 34 1 3) 34 2 3)) (by decide) rfl dX12_plainest_177 ?_
  refine z_calli b (z_runV (q0 := 0) (As := [.int 5, .int 3]) (st := [.int 2, .ref (a 3)]) b (c_X12_renamed_24 (su (su (su S 34 0 3) 34 1 3) 34 2 3) ) cf_X12_renamed (mw_0 cy a (su (su (su S 34 0 3) 34 1 3) 34 2 3)) rfl wm_X12_445 wi_X12_renamed ws_X12_renamed dX12_plainest_178 rfl (Nat.le_of_ble_eq_true rfl) ⟨by decide, by decide, by decide, by decide⟩) (fun r11610 u11611 h11609 => ?_)
  obtain ⟨rfl, rfl⟩ := h11609
  refine y_iast (q0 := 3) (j := 2) b (mw_3 cy a (su (su (su S 34 0 3) 34 1 3) 34 2 3)) (by decide) dX12_plainest_181 ((mwa_3 cy a (su (su (su S 34 0 3) 34 1 3) 34 2 3) 2 3).trans (congrArg (mw cy a) (su_same h_a_2_2))) ?_
  refine z_iconst (v := 0) b dX12_plainest_182 (by decide) ?_
  refine z_istore (lv' := [(7, .int 0), (6, .int 0), (5, .int 35), (3, .long 1649317774848), (8, .int 0), (0, .ref (a 0)), (1, .long 1649317774848)]) b dX12_plainest_183 (by decide) rfl ?_
  refine z_iload b dX12_plainest_185 rfl ?_
  refine z_iconst (v := 3) b dX12_plainest_187 (by decide) ?_
  refine z_icmp_ge_f (tgt := 281) b dX12_plainest_188 (by decide) (by decide) ?_
  refine z_iconst (v := 3) b dX12_plainest_191 (by decide) ?_
  refine z_aload_n b dX12_plainest_192 rfl rfl ?_
  refine z_iload b dX12_plainest_193 rfl ?_
  refine z_bipush (v := 6) b dX12_plainest_195 (by decide) ?_
  refine z_idiv (v := 5) b dX12_plainest_197 (by decide) (by decide) ?_
  exact k

set_option maxHeartbeats 4000000 in
set_option maxRecDepth 100000 in
theorem ch_X12_plainest_343 {p : Program} {l : Launch} {e : Env} {R : Room} {s : State} {m : MethodId} {args : Array Value} {below : List Frame} {meth : Method} {c : Code} {D : va_G} {cy : Nat → ClassId} {T0 tB tE : Nat} {A : Nat → Prop} {Q : State → Prop} {a : Nat → Nat} (S : GS)  (h_a_1_6 : ar S 1 6 = 0) (h_a_1_7 : ar S 1 7 = 0) (h_a_1_8 : ar S 1 8 = 0) (h_a_31_15 : ar S 31 15 = 2) (h_a_31_16 : ar S 31 16 = 1) (h_a_31_17 : ar S 31 17 = 0) (h_a_33_0 : ar S 33 0 = 0) (h_a_33_1 : ar S 33 1 = 0) (h_a_33_2 : ar S 33 2 = 0) (h_a_35_0 : ar S 35 0 = 0) (h_a_35_1 : ar S 35 1 = 0) (h_a_36_0 : ar S 36 0 = 0) (h_a_36_1 : ar S 36 1 = 0) (h_a_3_7 : ar S 3 7 = 0) (h_a_3_8 : ar S 3 8 = 0) (h_a_4_7 : ar S 4 7 = 0) (h_a_4_8 : ar S 4 8 = 0) (b : Bz p R s m args meth c D cy T0 tB tE A 9 cX12_plainest RX12 (some .long) "plainest" 2 47 0 0) (k : Z p l e R s m args below meth c D A 9 Q 0 0 (mw cy a (su (su (su S 34 0 3) 34 1 3) 34 2 3)) [(8, .int 6), (7, .int 2), (6, .int 0), (5, .int 35), (3, .long 1649317774848), (0, .ref (a 0)), (1, .long 1649317774848)] 238 [.ref (a 0)]) : Z p l e R s m args below meth c D A 9 Q 0 0 (mw cy a (su (su (su S 34 0 3) 34 1 3) 34 2 3)) [(7, .int 0), (6, .int 0), (5, .int 35), (3, .long 1649317774848), (8, .int 0), (0, .ref (a 0)), (1, .long 1649317774848)] 198 [.int 5, .ref (a 0), .int 3] := by
  refine z_iload b dX12_plainest_198 rfl ?_
  refine z_calli b (z_runV (q0 := 0) (As := [.int 5, .int 0]) (st := [.int 3]) b (c_X12_renamed_17 (su (su (su S 34 0 3) 34 1 3) 34 2 3) h_a_31_15) cf_X12_renamed (mw_0 cy a (su (su (su S 34 0 3) 34 1 3) 34 2 3)) rfl wm_X12_445 wi_X12_renamed ws_X12_renamed dX12_plainest_200 rfl (Nat.le_of_ble_eq_true rfl) ⟨by decide, by decide, by decide, by decide⟩) (fun r11613 u11614 h11612 => ?_)
  obtain ⟨rfl, rfl⟩ := h11612
  refine z_imul (v := 6) b dX12_plainest_203 (by decide) ?_
  refine z_aload_n b dX12_plainest_204 rfl rfl ?_
  refine z_iload b dX12_plainest_205 rfl ?_
  refine z_bipush (v := 6) b dX12_plainest_207 (by decide) ?_
  refine z_idiv (v := 5) b dX12_plainest_209 (by decide) (by decide) ?_
  refine z_iload b dX12_plainest_210 rfl ?_
  refine z_calli b (z_runV (q0 := 0) (As := [.int 5, .int 0]) (st := [.int 6]) b (c_X12_renamed_17 (su (su (su S 34 0 3) 34 1 3) 34 2 3) h_a_31_15) cf_X12_renamed (mw_0 cy a (su (su (su S 34 0 3) 34 1 3) 34 2 3)) rfl wm_X12_445 wi_X12_renamed ws_X12_renamed dX12_plainest_212 rfl (Nat.le_of_ble_eq_true rfl) ⟨by decide, by decide, by decide, by decide⟩) (fun r11616 u11617 h11615 => ?_)
  obtain ⟨rfl, rfl⟩ := h11615
  refine z_iadd (v := 8) b dX12_plainest_215 (by decide) ?_
  refine z_istore (lv' := [(8, .int 8), (7, .int 0), (6, .int 0), (5, .int 35), (3, .long 1649317774848), (0, .ref (a 0)), (1, .long 1649317774848)]) b dX12_plainest_216 (by decide) rfl ?_
  refine z_aload_n b dX12_plainest_218 rfl rfl ?_
  refine z_get (q0 := 0) (k9 := 1) (v := .ref (a 2)) b (mw_0 cy a (su (su (su S 34 0 3) 34 1 3) 34 2 3)) rfl in_X12 (by decide) wf_X12_17 rfl dX12_plainest_219 ?_
  refine z_iload b dX12_plainest_222 rfl ?_
  refine z_aload_n b dX12_plainest_224 rfl rfl ?_
  refine z_get (q0 := 0) (k9 := 60) (v := .ref (a 35)) b (mw_0 cy a (su (su (su S 34 0 3) 34 1 3) 34 2 3)) rfl in_X12 (by decide) wf_X12_122 rfl dX12_plainest_225 ?_
  refine z_iconst (v := 3) b dX12_plainest_228 (by decide) ?_
  refine z_iload b dX12_plainest_229 rfl ?_
  refine z_imul (v := 0) b dX12_plainest_231 (by decide) ?_
  refine z_iload b dX12_plainest_232 rfl ?_
  refine z_iadd (v := 0) b dX12_plainest_234 (by decide) ?_
  refine y_iald (q0 := 35) (j := 0) (v := (ar (su (su (su S 34 0 3) 34 1 3) 34 2 3) 33 0)) b (mw_35 cy a (su (su (su S 34 0 3) 34 1 3) 34 2 3)) (by decide) rfl dX12_plainest_235 ?_
  refine z_eqi h_a_33_0 ?_
  refine y_iast (q0 := 2) (j := 8) b (mw_2 cy a (su (su (su S 34 0 3) 34 1 3) 34 2 3)) (by decide) dX12_plainest_236 ((mwa_2 cy a (su (su (su S 34 0 3) 34 1 3) 34 2 3) 8 0).trans (congrArg (mw cy a) (su_same h_a_1_8))) ?_
  refine z_aload_n b dX12_plainest_237 rfl rfl ?_
  refine z_get (q0 := 0) (k9 := 3) (v := .ref (a 4)) b (mw_0 cy a (su (su (su S 34 0 3) 34 1 3) 34 2 3)) rfl in_X12 (by decide) wf_X12_23 rfl dX12_plainest_238 ?_
  refine z_iload b dX12_plainest_241 rfl ?_
  refine z_aload_n b dX12_plainest_243 rfl rfl ?_
  refine z_get (q0 := 0) (k9 := 62) (v := .ref (a 37)) b (mw_0 cy a (su (su (su S 34 0 3) 34 1 3) 34 2 3)) rfl in_X12 (by decide) wf_X12_128 rfl dX12_plainest_244 ?_
  refine z_iconst (v := 3) b dX12_plainest_247 (by decide) ?_
  refine z_iload b dX12_plainest_248 rfl ?_
  refine z_imul (v := 0) b dX12_plainest_250 (by decide) ?_
  refine z_iload b dX12_plainest_251 rfl ?_
  refine z_iadd (v := 0) b dX12_plainest_253 (by decide) ?_
  refine y_zald (q0 := 37) (j := 0) (v := (ar (su (su (su S 34 0 3) 34 1 3) 34 2 3) 35 0)) b (mw_37 cy a (su (su (su S 34 0 3) 34 1 3) 34 2 3)) (by decide) rfl dX12_plainest_254 ?_
  refine z_eqi h_a_35_0 ?_
  refine y_zast (q0 := 4) (j := 8) b (mw_4 cy a (su (su (su S 34 0 3) 34 1 3) 34 2 3)) (by decide) (by decide) dX12_plainest_255 ((mwa_4 cy a (su (su (su S 34 0 3) 34 1 3) 34 2 3) 8 0).trans (congrArg (mw cy a) (su_same h_a_3_8))) ?_
  refine z_aload_n b dX12_plainest_256 rfl rfl ?_
  refine z_get (q0 := 0) (k9 := 4) (v := .ref (a 5)) b (mw_0 cy a (su (su (su S 34 0 3) 34 1 3) 34 2 3)) rfl in_X12 (by decide) wf_X12_27 rfl dX12_plainest_257 ?_
  refine z_iload b dX12_plainest_260 rfl ?_
  refine z_aload_n b dX12_plainest_262 rfl rfl ?_
  refine z_get (q0 := 0) (k9 := 63) (v := .ref (a 38)) b (mw_0 cy a (su (su (su S 34 0 3) 34 1 3) 34 2 3)) rfl in_X12 (by decide) wf_X12_131 rfl dX12_plainest_263 ?_
  refine z_iconst (v := 3) b dX12_plainest_266 (by decide) ?_
  refine z_iload b dX12_plainest_267 rfl ?_
  refine z_imul (v := 0) b dX12_plainest_269 (by decide) ?_
  refine z_iload b dX12_plainest_270 rfl ?_
  refine z_iadd (v := 0) b dX12_plainest_272 (by decide) ?_
  refine y_zald (q0 := 38) (j := 0) (v := (ar (su (su (su S 34 0 3) 34 1 3) 34 2 3) 36 0)) b (mw_38 cy a (su (su (su S 34 0 3) 34 1 3) 34 2 3)) (by decide) rfl dX12_plainest_273 ?_
  refine z_eqi h_a_36_0 ?_
  refine y_zast (q0 := 5) (j := 8) b (mw_5 cy a (su (su (su S 34 0 3) 34 1 3) 34 2 3)) (by decide) (by decide) dX12_plainest_274 ((mwa_5 cy a (su (su (su S 34 0 3) 34 1 3) 34 2 3) 8 0).trans (congrArg (mw cy a) (su_same h_a_4_8))) ?_
  refine z_iinc (k9 := 1) (v := 1) (lv' := [(7, .int 1), (8, .int 8), (6, .int 0), (5, .int 35), (3, .long 1649317774848), (0, .ref (a 0)), (1, .long 1649317774848)]) b dX12_plainest_275 rfl (by decide) (by decide) rfl ?_
  refine z_goto (tgt := 185) b dX12_plainest_278 (by decide) ?_
  refine z_iload b dX12_plainest_185 rfl ?_
  refine z_iconst (v := 3) b dX12_plainest_187 (by decide) ?_
  refine z_icmp_ge_f (tgt := 281) b dX12_plainest_188 (by decide) (by decide) ?_
  refine z_iconst (v := 3) b dX12_plainest_191 (by decide) ?_
  refine z_aload_n b dX12_plainest_192 rfl rfl ?_
  refine z_iload b dX12_plainest_193 rfl ?_
  refine z_bipush (v := 6) b dX12_plainest_195 (by decide) ?_
  refine z_idiv (v := 5) b dX12_plainest_197 (by decide) (by decide) ?_
  refine z_iload b dX12_plainest_198 rfl ?_
  refine z_calli b (z_runV (q0 := 0) (As := [.int 5, .int 0]) (st := [.int 3]) b (c_X12_renamed_17 (su (su (su S 34 0 3) 34 1 3) 34 2 3) h_a_31_15) cf_X12_renamed (mw_0 cy a (su (su (su S 34 0 3) 34 1 3) 34 2 3)) rfl wm_X12_445 wi_X12_renamed ws_X12_renamed dX12_plainest_200 rfl (Nat.le_of_ble_eq_true rfl) ⟨by decide, by decide, by decide, by decide⟩) (fun r11619 u11620 h11618 => ?_)
  obtain ⟨rfl, rfl⟩ := h11618
  refine z_imul (v := 6) b dX12_plainest_203 (by decide) ?_
  refine z_aload_n b dX12_plainest_204 rfl rfl ?_
  refine z_iload b dX12_plainest_205 rfl ?_
  refine z_bipush (v := 6) b dX12_plainest_207 (by decide) ?_
  refine z_idiv (v := 5) b dX12_plainest_209 (by decide) (by decide) ?_
  refine z_iload b dX12_plainest_210 rfl ?_
  refine z_calli b (z_runV (q0 := 0) (As := [.int 5, .int 1]) (st := [.int 6]) b (c_X12_renamed_18 (su (su (su S 34 0 3) 34 1 3) 34 2 3) h_a_31_16) cf_X12_renamed (mw_0 cy a (su (su (su S 34 0 3) 34 1 3) 34 2 3)) rfl wm_X12_445 wi_X12_renamed ws_X12_renamed dX12_plainest_212 rfl (Nat.le_of_ble_eq_true rfl) ⟨by decide, by decide, by decide, by decide⟩) (fun r11622 u11623 h11621 => ?_)
  obtain ⟨rfl, rfl⟩ := h11621
  refine z_iadd (v := 7) b dX12_plainest_215 (by decide) ?_
  refine z_istore (lv' := [(8, .int 7), (7, .int 1), (6, .int 0), (5, .int 35), (3, .long 1649317774848), (0, .ref (a 0)), (1, .long 1649317774848)]) b dX12_plainest_216 (by decide) rfl ?_
  refine z_aload_n b dX12_plainest_218 rfl rfl ?_
  refine z_get (q0 := 0) (k9 := 1) (v := .ref (a 2)) b (mw_0 cy a (su (su (su S 34 0 3) 34 1 3) 34 2 3)) rfl in_X12 (by decide) wf_X12_17 rfl dX12_plainest_219 ?_
  refine z_iload b dX12_plainest_222 rfl ?_
  refine z_aload_n b dX12_plainest_224 rfl rfl ?_
  refine z_get (q0 := 0) (k9 := 60) (v := .ref (a 35)) b (mw_0 cy a (su (su (su S 34 0 3) 34 1 3) 34 2 3)) rfl in_X12 (by decide) wf_X12_122 rfl dX12_plainest_225 ?_
  refine z_iconst (v := 3) b dX12_plainest_228 (by decide) ?_
  refine z_iload b dX12_plainest_229 rfl ?_
  refine z_imul (v := 0) b dX12_plainest_231 (by decide) ?_
  refine z_iload b dX12_plainest_232 rfl ?_
  refine z_iadd (v := 1) b dX12_plainest_234 (by decide) ?_
  refine y_iald (q0 := 35) (j := 1) (v := (ar (su (su (su S 34 0 3) 34 1 3) 34 2 3) 33 1)) b (mw_35 cy a (su (su (su S 34 0 3) 34 1 3) 34 2 3)) (by decide) rfl dX12_plainest_235 ?_
  refine z_eqi h_a_33_1 ?_
  refine y_iast (q0 := 2) (j := 7) b (mw_2 cy a (su (su (su S 34 0 3) 34 1 3) 34 2 3)) (by decide) dX12_plainest_236 ((mwa_2 cy a (su (su (su S 34 0 3) 34 1 3) 34 2 3) 7 0).trans (congrArg (mw cy a) (su_same h_a_1_7))) ?_
  refine z_aload_n b dX12_plainest_237 rfl rfl ?_
  refine z_get (q0 := 0) (k9 := 3) (v := .ref (a 4)) b (mw_0 cy a (su (su (su S 34 0 3) 34 1 3) 34 2 3)) rfl in_X12 (by decide) wf_X12_23 rfl dX12_plainest_238 ?_
  refine z_iload b dX12_plainest_241 rfl ?_
  refine z_aload_n b dX12_plainest_243 rfl rfl ?_
  refine z_get (q0 := 0) (k9 := 62) (v := .ref (a 37)) b (mw_0 cy a (su (su (su S 34 0 3) 34 1 3) 34 2 3)) rfl in_X12 (by decide) wf_X12_128 rfl dX12_plainest_244 ?_
  refine z_iconst (v := 3) b dX12_plainest_247 (by decide) ?_
  refine z_iload b dX12_plainest_248 rfl ?_
  refine z_imul (v := 0) b dX12_plainest_250 (by decide) ?_
  refine z_iload b dX12_plainest_251 rfl ?_
  refine z_iadd (v := 1) b dX12_plainest_253 (by decide) ?_
  refine y_zald (q0 := 37) (j := 1) (v := (ar (su (su (su S 34 0 3) 34 1 3) 34 2 3) 35 1)) b (mw_37 cy a (su (su (su S 34 0 3) 34 1 3) 34 2 3)) (by decide) rfl dX12_plainest_254 ?_
  refine z_eqi h_a_35_1 ?_
  refine y_zast (q0 := 4) (j := 7) b (mw_4 cy a (su (su (su S 34 0 3) 34 1 3) 34 2 3)) (by decide) (by decide) dX12_plainest_255 ((mwa_4 cy a (su (su (su S 34 0 3) 34 1 3) 34 2 3) 7 0).trans (congrArg (mw cy a) (su_same h_a_3_7))) ?_
  refine z_aload_n b dX12_plainest_256 rfl rfl ?_
  refine z_get (q0 := 0) (k9 := 4) (v := .ref (a 5)) b (mw_0 cy a (su (su (su S 34 0 3) 34 1 3) 34 2 3)) rfl in_X12 (by decide) wf_X12_27 rfl dX12_plainest_257 ?_
  refine z_iload b dX12_plainest_260 rfl ?_
  refine z_aload_n b dX12_plainest_262 rfl rfl ?_
  refine z_get (q0 := 0) (k9 := 63) (v := .ref (a 38)) b (mw_0 cy a (su (su (su S 34 0 3) 34 1 3) 34 2 3)) rfl in_X12 (by decide) wf_X12_131 rfl dX12_plainest_263 ?_
  refine z_iconst (v := 3) b dX12_plainest_266 (by decide) ?_
  refine z_iload b dX12_plainest_267 rfl ?_
  refine z_imul (v := 0) b dX12_plainest_269 (by decide) ?_
  refine z_iload b dX12_plainest_270 rfl ?_
  refine z_iadd (v := 1) b dX12_plainest_272 (by decide) ?_
  refine y_zald (q0 := 38) (j := 1) (v := (ar (su (su (su S 34 0 3) 34 1 3) 34 2 3) 36 1)) b (mw_38 cy a (su (su (su S 34 0 3) 34 1 3) 34 2 3)) (by decide) rfl dX12_plainest_273 ?_
  refine z_eqi h_a_36_1 ?_
  refine y_zast (q0 := 5) (j := 7) b (mw_5 cy a (su (su (su S 34 0 3) 34 1 3) 34 2 3)) (by decide) (by decide) dX12_plainest_274 ((mwa_5 cy a (su (su (su S 34 0 3) 34 1 3) 34 2 3) 7 0).trans (congrArg (mw cy a) (su_same h_a_4_7))) ?_
  refine z_iinc (k9 := 1) (v := 2) (lv' := [(7, .int 2), (8, .int 7), (6, .int 0), (5, .int 35), (3, .long 1649317774848), (0, .ref (a 0)), (1, .long 1649317774848)]) b dX12_plainest_275 rfl (by decide) (by decide) rfl ?_
  refine z_goto (tgt := 185) b dX12_plainest_278 (by decide) ?_
  refine z_iload b dX12_plainest_185 rfl ?_
  refine z_iconst (v := 3) b dX12_plainest_187 (by decide) ?_
  refine z_icmp_ge_f (tgt := 281) b dX12_plainest_188 (by decide) (by decide) ?_
  refine z_iconst (v := 3) b dX12_plainest_191 (by decide) ?_
  refine z_aload_n b dX12_plainest_192 rfl rfl ?_
  refine z_iload b dX12_plainest_193 rfl ?_
  refine z_bipush (v := 6) b dX12_plainest_195 (by decide) ?_
  refine z_idiv (v := 5) b dX12_plainest_197 (by decide) (by decide) ?_
  refine z_iload b dX12_plainest_198 rfl ?_
  refine z_calli b (z_runV (q0 := 0) (As := [.int 5, .int 0]) (st := [.int 3]) b (c_X12_renamed_17 (su (su (su S 34 0 3) 34 1 3) 34 2 3) h_a_31_15) cf_X12_renamed (mw_0 cy a (su (su (su S 34 0 3) 34 1 3) 34 2 3)) rfl wm_X12_445 wi_X12_renamed ws_X12_renamed dX12_plainest_200 rfl (Nat.le_of_ble_eq_true rfl) ⟨by decide, by decide, by decide, by decide⟩) (fun r11625 u11626 h11624 => ?_)
  obtain ⟨rfl, rfl⟩ := h11624
  refine z_imul (v := 6) b dX12_plainest_203 (by decide) ?_
  refine z_aload_n b dX12_plainest_204 rfl rfl ?_
  refine z_iload b dX12_plainest_205 rfl ?_
  refine z_bipush (v := 6) b dX12_plainest_207 (by decide) ?_
  refine z_idiv (v := 5) b dX12_plainest_209 (by decide) (by decide) ?_
  refine z_iload b dX12_plainest_210 rfl ?_
  refine z_calli b (z_runV (q0 := 0) (As := [.int 5, .int 2]) (st := [.int 6]) b (c_X12_renamed_19 (su (su (su S 34 0 3) 34 1 3) 34 2 3) h_a_31_17) cf_X12_renamed (mw_0 cy a (su (su (su S 34 0 3) 34 1 3) 34 2 3)) rfl wm_X12_445 wi_X12_renamed ws_X12_renamed dX12_plainest_212 rfl (Nat.le_of_ble_eq_true rfl) ⟨by decide, by decide, by decide, by decide⟩) (fun r11628 u11629 h11627 => ?_)
  obtain ⟨rfl, rfl⟩ := h11627
  refine z_iadd (v := 6) b dX12_plainest_215 (by decide) ?_
  refine z_istore (lv' := [(8, .int 6), (7, .int 2), (6, .int 0), (5, .int 35), (3, .long 1649317774848), (0, .ref (a 0)), (1, .long 1649317774848)]) b dX12_plainest_216 (by decide) rfl ?_
  refine z_aload_n b dX12_plainest_218 rfl rfl ?_
  refine z_get (q0 := 0) (k9 := 1) (v := .ref (a 2)) b (mw_0 cy a (su (su (su S 34 0 3) 34 1 3) 34 2 3)) rfl in_X12 (by decide) wf_X12_17 rfl dX12_plainest_219 ?_
  refine z_iload b dX12_plainest_222 rfl ?_
  refine z_aload_n b dX12_plainest_224 rfl rfl ?_
  refine z_get (q0 := 0) (k9 := 60) (v := .ref (a 35)) b (mw_0 cy a (su (su (su S 34 0 3) 34 1 3) 34 2 3)) rfl in_X12 (by decide) wf_X12_122 rfl dX12_plainest_225 ?_
  refine z_iconst (v := 3) b dX12_plainest_228 (by decide) ?_
  refine z_iload b dX12_plainest_229 rfl ?_
  refine z_imul (v := 0) b dX12_plainest_231 (by decide) ?_
  refine z_iload b dX12_plainest_232 rfl ?_
  refine z_iadd (v := 2) b dX12_plainest_234 (by decide) ?_
  refine y_iald (q0 := 35) (j := 2) (v := (ar (su (su (su S 34 0 3) 34 1 3) 34 2 3) 33 2)) b (mw_35 cy a (su (su (su S 34 0 3) 34 1 3) 34 2 3)) (by decide) rfl dX12_plainest_235 ?_
  refine z_eqi h_a_33_2 ?_
  refine y_iast (q0 := 2) (j := 6) b (mw_2 cy a (su (su (su S 34 0 3) 34 1 3) 34 2 3)) (by decide) dX12_plainest_236 ((mwa_2 cy a (su (su (su S 34 0 3) 34 1 3) 34 2 3) 6 0).trans (congrArg (mw cy a) (su_same h_a_1_6))) ?_
  refine z_aload_n b dX12_plainest_237 rfl rfl ?_
  exact k

set_option maxHeartbeats 4000000 in
set_option maxRecDepth 100000 in
theorem ch_X12_plainest_344 {p : Program} {l : Launch} {e : Env} {R : Room} {s : State} {m : MethodId} {args : Array Value} {below : List Frame} {meth : Method} {c : Code} {D : va_G} {cy : Nat → ClassId} {T0 tB tE : Nat} {A : Nat → Prop} {Q : State → Prop} {a : Nat → Nat} (S : GS)  (h_a_0_1 : ar S 0 1 = 0) (h_a_1_5 : ar S 1 5 = 0) (h_a_2_1 : ar S 2 1 = 3) (h_a_31_15 : ar S 31 15 = 2) (h_a_31_16 : ar S 31 16 = 1) (h_a_32_1 : ar S 32 1 = 0) (h_a_33_3 : ar S 33 3 = 0) (h_a_35_2 : ar S 35 2 = 0) (h_a_35_3 : ar S 35 3 = 0) (h_a_36_2 : ar S 36 2 = 0) (h_a_36_3 : ar S 36 3 = 0) (h_a_3_5 : ar S 3 5 = 0) (h_a_3_6 : ar S 3 6 = 0) (h_a_4_5 : ar S 4 5 = 0) (h_a_4_6 : ar S 4 6 = 0) (b : Bz p R s m args meth c D cy T0 tB tE A 9 cX12_plainest RX12 (some .long) "plainest" 2 47 0 0) (k : Z p l e R s m args below meth c D A 9 Q 0 0 (mw cy a (su (su (su S 34 0 3) 34 1 3) 34 2 3)) [(7, .int 1), (8, .int 5), (6, .int 1), (5, .int 35), (3, .long 1649317774848), (0, .ref (a 0)), (1, .long 1649317774848)] 212 [.int 1, .int 5, .ref (a 0), .int 3]) : Z p l e R s m args below meth c D A 9 Q 0 0 (mw cy a (su (su (su S 34 0 3) 34 1 3) 34 2 3)) [(8, .int 6), (7, .int 2), (6, .int 0), (5, .int 35), (3, .long 1649317774848), (0, .ref (a 0)), (1, .long 1649317774848)] 238 [.ref (a 0)] := by
  refine z_get (q0 := 0) (k9 := 3) (v := .ref (a 4)) b (mw_0 cy a (su (su (su S 34 0 3) 34 1 3) 34 2 3)) rfl in_X12 (by decide) wf_X12_23 rfl dX12_plainest_238 ?_
  refine z_iload b dX12_plainest_241 rfl ?_
  refine z_aload_n b dX12_plainest_243 rfl rfl ?_
  refine z_get (q0 := 0) (k9 := 62) (v := .ref (a 37)) b (mw_0 cy a (su (su (su S 34 0 3) 34 1 3) 34 2 3)) rfl in_X12 (by decide) wf_X12_128 rfl dX12_plainest_244 ?_
  refine z_iconst (v := 3) b dX12_plainest_247 (by decide) ?_
  refine z_iload b dX12_plainest_248 rfl ?_
  refine z_imul (v := 0) b dX12_plainest_250 (by decide) ?_
  refine z_iload b dX12_plainest_251 rfl ?_
  refine z_iadd (v := 2) b dX12_plainest_253 (by decide) ?_
  refine y_zald (q0 := 37) (j := 2) (v := (ar (su (su (su S 34 0 3) 34 1 3) 34 2 3) 35 2)) b (mw_37 cy a (su (su (su S 34 0 3) 34 1 3) 34 2 3)) (by decide) rfl dX12_plainest_254 ?_
  refine z_eqi h_a_35_2 ?_
  refine y_zast (q0 := 4) (j := 6) b (mw_4 cy a (su (su (su S 34 0 3) 34 1 3) 34 2 3)) (by decide) (by decide) dX12_plainest_255 ((mwa_4 cy a (su (su (su S 34 0 3) 34 1 3) 34 2 3) 6 0).trans (congrArg (mw cy a) (su_same h_a_3_6))) ?_
  refine z_aload_n b dX12_plainest_256 rfl rfl ?_
  refine z_get (q0 := 0) (k9 := 4) (v := .ref (a 5)) b (mw_0 cy a (su (su (su S 34 0 3) 34 1 3) 34 2 3)) rfl in_X12 (by decide) wf_X12_27 rfl dX12_plainest_257 ?_
  refine z_iload b dX12_plainest_260 rfl ?_
  refine z_aload_n b dX12_plainest_262 rfl rfl ?_
  refine z_get (q0 := 0) (k9 := 63) (v := .ref (a 38)) b (mw_0 cy a (su (su (su S 34 0 3) 34 1 3) 34 2 3)) rfl in_X12 (by decide) wf_X12_131 rfl dX12_plainest_263 ?_
  refine z_iconst (v := 3) b dX12_plainest_266 (by decide) ?_
  refine z_iload b dX12_plainest_267 rfl ?_
  refine z_imul (v := 0) b dX12_plainest_269 (by decide) ?_
  refine z_iload b dX12_plainest_270 rfl ?_
  refine z_iadd (v := 2) b dX12_plainest_272 (by decide) ?_
  refine y_zald (q0 := 38) (j := 2) (v := (ar (su (su (su S 34 0 3) 34 1 3) 34 2 3) 36 2)) b (mw_38 cy a (su (su (su S 34 0 3) 34 1 3) 34 2 3)) (by decide) rfl dX12_plainest_273 ?_
  refine z_eqi h_a_36_2 ?_
  refine y_zast (q0 := 5) (j := 6) b (mw_5 cy a (su (su (su S 34 0 3) 34 1 3) 34 2 3)) (by decide) (by decide) dX12_plainest_274 ((mwa_5 cy a (su (su (su S 34 0 3) 34 1 3) 34 2 3) 6 0).trans (congrArg (mw cy a) (su_same h_a_4_6))) ?_
  refine z_iinc (k9 := 1) (v := 3) (lv' := [(7, .int 3), (8, .int 6), (6, .int 0), (5, .int 35), (3, .long 1649317774848), (0, .ref (a 0)), (1, .long 1649317774848)]) b dX12_plainest_275 rfl (by decide) (by decide) rfl ?_
  refine z_goto (tgt := 185) b dX12_plainest_278 (by decide) ?_
  refine z_iload b dX12_plainest_185 rfl ?_
  refine z_iconst (v := 3) b dX12_plainest_187 (by decide) ?_
  refine z_icmp_ge_t (tgt := 281) b dX12_plainest_188 (by decide) (by decide) ?_
  refine z_iinc (k9 := 2) (v := 1) (lv' := [(6, .int 1), (7, .int 3), (8, .int 6), (5, .int 35), (3, .long 1649317774848), (0, .ref (a 0)), (1, .long 1649317774848)]) b dX12_plainest_281 rfl (by decide) (by decide) rfl ?_
  refine z_goto (tgt := 121) b dX12_plainest_284 (by decide) ?_
  refine z_iload b dX12_plainest_121 rfl ?_
  refine z_iconst (v := 3) b dX12_plainest_123 (by decide) ?_
  refine z_icmp_ge_f (tgt := 287) b dX12_plainest_124 (by decide) (by decide) ?_
  refine z_aload_n b dX12_plainest_127 rfl rfl ?_
  refine z_get (q0 := 0) (k9 := 0) (v := .ref (a 1)) b (mw_0 cy a (su (su (su S 34 0 3) 34 1 3) 34 2 3)) rfl in_X12 (by decide) wf_X12_13 rfl dX12_plainest_128 ?_
  refine z_aload_n b dX12_plainest_131 rfl rfl ?_
  refine z_iload b dX12_plainest_132 rfl ?_
  refine z_bipush (v := 6) b dX12_plainest_134 (by decide) ?_
  refine z_idiv (v := 5) b dX12_plainest_136 (by decide) (by decide) ?_
  refine z_iload b dX12_plainest_137 rfl ?_
  refine z_calli b (z_runV (q0 := 0) (As := [.int 5, .int 1]) (st := [.ref (a 1)]) b (c_X12_renamed_18 (su (su (su S 34 0 3) 34 1 3) 34 2 3) h_a_31_16) cf_X12_renamed (mw_0 cy a (su (su (su S 34 0 3) 34 1 3) 34 2 3)) rfl wm_X12_445 wi_X12_renamed ws_X12_renamed dX12_plainest_139 rfl (Nat.le_of_ble_eq_true rfl) ⟨by decide, by decide, by decide, by decide⟩) (fun r11631 u11632 h11630 => ?_)
  obtain ⟨rfl, rfl⟩ := h11630
  refine z_aload_n b dX12_plainest_142 rfl rfl ?_
  refine z_get (q0 := 0) (k9 := 59) (v := .ref (a 34)) b (mw_0 cy a (su (su (su S 34 0 3) 34 1 3) 34 2 3)) rfl in_X12 (by decide) wf_X12_119 rfl dX12_plainest_143 ?_
  refine z_iload b dX12_plainest_146 rfl ?_
  refine y_iald (q0 := 34) (j := 1) (v := (ar (su (su (su S 34 0 3) 34 1 3) 34 2 3) 32 1)) b (mw_34 cy a (su (su (su S 34 0 3) 34 1 3) 34 2 3)) (by decide) rfl dX12_plainest_148 ?_
  refine z_eqi h_a_32_1 ?_
  refine y_iast (q0 := 1) (j := 1) b (mw_1 cy a (su (su (su S 34 0 3) 34 1 3) 34 2 3)) (by decide) dX12_plainest_149 ((mwa_1 cy a (su (su (su S 34 0 3) 34 1 3) 34 2 3) 1 0).trans (congrArg (mw cy a) (su_same h_a_0_1))) ?_
  refine z_aload_n b dX12_plainest_150 rfl rfl ?_
  refine z_get (q0 := 0) (k9 := 2) (v := .ref (a 3)) b (mw_0 cy a (su (su (su S 34 0 3) 34 1 3) 34 2 3)) rfl in_X12 (by decide) wf_X12_20 rfl dX12_plainest_151 ?_
  refine z_aload_n b dX12_plainest_154 rfl rfl ?_
  refine z_iload b dX12_plainest_155 rfl ?_
  refine z_bipush (v := 6) b dX12_plainest_157 (by decide) ?_
  refine z_irem (v := 5) b dX12_plainest_159 (by decide) (by decide) ?_
  refine z_iload b dX12_plainest_160 rfl ?_
  refine z_calli b (z_runV (q0 := 0) (As := [.int 5, .int 1]) (st := [.ref (a 3)]) b (c_X12_renamed_18 (su (su (su S 34 0 3) 34 1 3) 34 2 3) h_a_31_16) cf_X12_renamed (mw_0 cy a (su (su (su S 34 0 3) 34 1 3) 34 2 3)) rfl wm_X12_445 wi_X12_renamed ws_X12_renamed dX12_plainest_162 rfl (Nat.le_of_ble_eq_true rfl) ⟨by decide, by decide, by decide, by decide⟩) (fun r11634 u11635 h11633 => ?_)
  obtain ⟨rfl, rfl⟩ := h11633
  refine z_aload_n b dX12_plainest_165 rfl rfl ?_
  refine z_iload b dX12_plainest_166 rfl ?_
  refine z_bipush (v := 6) b dX12_plainest_168 (by decide) ?_
  refine z_idiv (v := 5) b dX12_plainest_170 (by decide) (by decide) ?_
  refine z_aload_n b dX12_plainest_171 rfl rfl ?_
  refine z_get (q0 := 0) (k9 := 61) (v := .ref (a 36)) b (mw_0 cy a (su (su (su S 34 0 3) 34 1 3) 34 2 3)) rfl in_X12 (by decide) wf_X12_125 rfl dX12_plainest_172 ?_
  refine z_iload b dX12_plainest_175 rfl ?_
  refine y_iald (q0 := 36) (j := 1) (v := 3) b (mw_36 cy a (su (su (su S 34 0 3) 34 1 3) 34 2 3)) (by decide) rfl dX12_plainest_177 ?_
  refine z_calli b (z_runV (q0 := 0) (As := [.int 5, .int 3]) (st := [.int 1, .ref (a 3)]) b (c_X12_renamed_24 (su (su (su S 34 0 3) 34 1 3) 34 2 3) ) cf_X12_renamed (mw_0 cy a (su (su (su S 34 0 3) 34 1 3) 34 2 3)) rfl wm_X12_445 wi_X12_renamed ws_X12_renamed dX12_plainest_178 rfl (Nat.le_of_ble_eq_true rfl) ⟨by decide, by decide, by decide, by decide⟩) (fun r11637 u11638 h11636 => ?_)
  obtain ⟨rfl, rfl⟩ := h11636
  refine y_iast (q0 := 3) (j := 1) b (mw_3 cy a (su (su (su S 34 0 3) 34 1 3) 34 2 3)) (by decide) dX12_plainest_181 ((mwa_3 cy a (su (su (su S 34 0 3) 34 1 3) 34 2 3) 1 3).trans (congrArg (mw cy a) (su_same h_a_2_1))) ?_
  refine z_iconst (v := 0) b dX12_plainest_182 (by decide) ?_
  refine z_istore (lv' := [(7, .int 0), (6, .int 1), (8, .int 6), (5, .int 35), (3, .long 1649317774848), (0, .ref (a 0)), (1, .long 1649317774848)]) b dX12_plainest_183 (by decide) rfl ?_
  refine z_iload b dX12_plainest_185 rfl ?_
  refine z_iconst (v := 3) b dX12_plainest_187 (by decide) ?_
  refine z_icmp_ge_f (tgt := 281) b dX12_plainest_188 (by decide) (by decide) ?_
  refine z_iconst (v := 3) b dX12_plainest_191 (by decide) ?_
  refine z_aload_n b dX12_plainest_192 rfl rfl ?_
  refine z_iload b dX12_plainest_193 rfl ?_
  refine z_bipush (v := 6) b dX12_plainest_195 (by decide) ?_
  refine z_idiv (v := 5) b dX12_plainest_197 (by decide) (by decide) ?_
  refine z_iload b dX12_plainest_198 rfl ?_
  refine z_calli b (z_runV (q0 := 0) (As := [.int 5, .int 1]) (st := [.int 3]) b (c_X12_renamed_18 (su (su (su S 34 0 3) 34 1 3) 34 2 3) h_a_31_16) cf_X12_renamed (mw_0 cy a (su (su (su S 34 0 3) 34 1 3) 34 2 3)) rfl wm_X12_445 wi_X12_renamed ws_X12_renamed dX12_plainest_200 rfl (Nat.le_of_ble_eq_true rfl) ⟨by decide, by decide, by decide, by decide⟩) (fun r11640 u11641 h11639 => ?_)
  obtain ⟨rfl, rfl⟩ := h11639
  refine z_imul (v := 3) b dX12_plainest_203 (by decide) ?_
  refine z_aload_n b dX12_plainest_204 rfl rfl ?_
  refine z_iload b dX12_plainest_205 rfl ?_
  refine z_bipush (v := 6) b dX12_plainest_207 (by decide) ?_
  refine z_idiv (v := 5) b dX12_plainest_209 (by decide) (by decide) ?_
  refine z_iload b dX12_plainest_210 rfl ?_
  refine z_calli b (z_runV (q0 := 0) (As := [.int 5, .int 0]) (st := [.int 3]) b (c_X12_renamed_17 (su (su (su S 34 0 3) 34 1 3) 34 2 3) h_a_31_15) cf_X12_renamed (mw_0 cy a (su (su (su S 34 0 3) 34 1 3) 34 2 3)) rfl wm_X12_445 wi_X12_renamed ws_X12_renamed dX12_plainest_212 rfl (Nat.le_of_ble_eq_true rfl) ⟨by decide, by decide, by decide, by decide⟩) (fun r11643 u11644 h11642 => ?_)
  obtain ⟨rfl, rfl⟩ := h11642
  refine z_iadd (v := 5) b dX12_plainest_215 (by decide) ?_
  refine z_istore (lv' := [(8, .int 5), (7, .int 0), (6, .int 1), (5, .int 35), (3, .long 1649317774848), (0, .ref (a 0)), (1, .long 1649317774848)]) b dX12_plainest_216 (by decide) rfl ?_
  refine z_aload_n b dX12_plainest_218 rfl rfl ?_
  refine z_get (q0 := 0) (k9 := 1) (v := .ref (a 2)) b (mw_0 cy a (su (su (su S 34 0 3) 34 1 3) 34 2 3)) rfl in_X12 (by decide) wf_X12_17 rfl dX12_plainest_219 ?_
  refine z_iload b dX12_plainest_222 rfl ?_
  refine z_aload_n b dX12_plainest_224 rfl rfl ?_
  refine z_get (q0 := 0) (k9 := 60) (v := .ref (a 35)) b (mw_0 cy a (su (su (su S 34 0 3) 34 1 3) 34 2 3)) rfl in_X12 (by decide) wf_X12_122 rfl dX12_plainest_225 ?_
  refine z_iconst (v := 3) b dX12_plainest_228 (by decide) ?_
  refine z_iload b dX12_plainest_229 rfl ?_
  refine z_imul (v := 3) b dX12_plainest_231 (by decide) ?_
  refine z_iload b dX12_plainest_232 rfl ?_
  refine z_iadd (v := 3) b dX12_plainest_234 (by decide) ?_
  refine y_iald (q0 := 35) (j := 3) (v := (ar (su (su (su S 34 0 3) 34 1 3) 34 2 3) 33 3)) b (mw_35 cy a (su (su (su S 34 0 3) 34 1 3) 34 2 3)) (by decide) rfl dX12_plainest_235 ?_
  refine z_eqi h_a_33_3 ?_
  refine y_iast (q0 := 2) (j := 5) b (mw_2 cy a (su (su (su S 34 0 3) 34 1 3) 34 2 3)) (by decide) dX12_plainest_236 ((mwa_2 cy a (su (su (su S 34 0 3) 34 1 3) 34 2 3) 5 0).trans (congrArg (mw cy a) (su_same h_a_1_5))) ?_
  refine z_aload_n b dX12_plainest_237 rfl rfl ?_
  refine z_get (q0 := 0) (k9 := 3) (v := .ref (a 4)) b (mw_0 cy a (su (su (su S 34 0 3) 34 1 3) 34 2 3)) rfl in_X12 (by decide) wf_X12_23 rfl dX12_plainest_238 ?_
  refine z_iload b dX12_plainest_241 rfl ?_
  refine z_aload_n b dX12_plainest_243 rfl rfl ?_
  refine z_get (q0 := 0) (k9 := 62) (v := .ref (a 37)) b (mw_0 cy a (su (su (su S 34 0 3) 34 1 3) 34 2 3)) rfl in_X12 (by decide) wf_X12_128 rfl dX12_plainest_244 ?_
  refine z_iconst (v := 3) b dX12_plainest_247 (by decide) ?_
  refine z_iload b dX12_plainest_248 rfl ?_
  refine z_imul (v := 3) b dX12_plainest_250 (by decide) ?_
  refine z_iload b dX12_plainest_251 rfl ?_
  refine z_iadd (v := 3) b dX12_plainest_253 (by decide) ?_
  refine y_zald (q0 := 37) (j := 3) (v := (ar (su (su (su S 34 0 3) 34 1 3) 34 2 3) 35 3)) b (mw_37 cy a (su (su (su S 34 0 3) 34 1 3) 34 2 3)) (by decide) rfl dX12_plainest_254 ?_
  refine z_eqi h_a_35_3 ?_
  refine y_zast (q0 := 4) (j := 5) b (mw_4 cy a (su (su (su S 34 0 3) 34 1 3) 34 2 3)) (by decide) (by decide) dX12_plainest_255 ((mwa_4 cy a (su (su (su S 34 0 3) 34 1 3) 34 2 3) 5 0).trans (congrArg (mw cy a) (su_same h_a_3_5))) ?_
  refine z_aload_n b dX12_plainest_256 rfl rfl ?_
  refine z_get (q0 := 0) (k9 := 4) (v := .ref (a 5)) b (mw_0 cy a (su (su (su S 34 0 3) 34 1 3) 34 2 3)) rfl in_X12 (by decide) wf_X12_27 rfl dX12_plainest_257 ?_
  refine z_iload b dX12_plainest_260 rfl ?_
  refine z_aload_n b dX12_plainest_262 rfl rfl ?_
  refine z_get (q0 := 0) (k9 := 63) (v := .ref (a 38)) b (mw_0 cy a (su (su (su S 34 0 3) 34 1 3) 34 2 3)) rfl in_X12 (by decide) wf_X12_131 rfl dX12_plainest_263 ?_
  refine z_iconst (v := 3) b dX12_plainest_266 (by decide) ?_
  refine z_iload b dX12_plainest_267 rfl ?_
  refine z_imul (v := 3) b dX12_plainest_269 (by decide) ?_
  refine z_iload b dX12_plainest_270 rfl ?_
  refine z_iadd (v := 3) b dX12_plainest_272 (by decide) ?_
  refine y_zald (q0 := 38) (j := 3) (v := (ar (su (su (su S 34 0 3) 34 1 3) 34 2 3) 36 3)) b (mw_38 cy a (su (su (su S 34 0 3) 34 1 3) 34 2 3)) (by decide) rfl dX12_plainest_273 ?_
  refine z_eqi h_a_36_3 ?_
  refine y_zast (q0 := 5) (j := 5) b (mw_5 cy a (su (su (su S 34 0 3) 34 1 3) 34 2 3)) (by decide) (by decide) dX12_plainest_274 ((mwa_5 cy a (su (su (su S 34 0 3) 34 1 3) 34 2 3) 5 0).trans (congrArg (mw cy a) (su_same h_a_4_5))) ?_
  refine z_iinc (k9 := 1) (v := 1) (lv' := [(7, .int 1), (8, .int 5), (6, .int 1), (5, .int 35), (3, .long 1649317774848), (0, .ref (a 0)), (1, .long 1649317774848)]) b dX12_plainest_275 rfl (by decide) (by decide) rfl ?_
  refine z_goto (tgt := 185) b dX12_plainest_278 (by decide) ?_
  refine z_iload b dX12_plainest_185 rfl ?_
  refine z_iconst (v := 3) b dX12_plainest_187 (by decide) ?_
  refine z_icmp_ge_f (tgt := 281) b dX12_plainest_188 (by decide) (by decide) ?_
  refine z_iconst (v := 3) b dX12_plainest_191 (by decide) ?_
  refine z_aload_n b dX12_plainest_192 rfl rfl ?_
  refine z_iload b dX12_plainest_193 rfl ?_
  refine z_bipush (v := 6) b dX12_plainest_195 (by decide) ?_
  refine z_idiv (v := 5) b dX12_plainest_197 (by decide) (by decide) ?_
  refine z_iload b dX12_plainest_198 rfl ?_
  refine z_calli b (z_runV (q0 := 0) (As := [.int 5, .int 1]) (st := [.int 3]) b (c_X12_renamed_18 (su (su (su S 34 0 3) 34 1 3) 34 2 3) h_a_31_16) cf_X12_renamed (mw_0 cy a (su (su (su S 34 0 3) 34 1 3) 34 2 3)) rfl wm_X12_445 wi_X12_renamed ws_X12_renamed dX12_plainest_200 rfl (Nat.le_of_ble_eq_true rfl) ⟨by decide, by decide, by decide, by decide⟩) (fun r11646 u11647 h11645 => ?_)
  obtain ⟨rfl, rfl⟩ := h11645
  refine z_imul (v := 3) b dX12_plainest_203 (by decide) ?_
  refine z_aload_n b dX12_plainest_204 rfl rfl ?_
  refine z_iload b dX12_plainest_205 rfl ?_
  refine z_bipush (v := 6) b dX12_plainest_207 (by decide) ?_
  refine z_idiv (v := 5) b dX12_plainest_209 (by decide) (by decide) ?_
  refine z_iload b dX12_plainest_210 rfl ?_
  exact k

set_option maxHeartbeats 4000000 in
set_option maxRecDepth 100000 in
theorem ch_X12_plainest_345 {p : Program} {l : Launch} {e : Env} {R : Room} {s : State} {m : MethodId} {args : Array Value} {below : List Frame} {meth : Method} {c : Code} {D : va_G} {cy : Nat → ClassId} {T0 tB tE : Nat} {A : Nat → Prop} {Q : State → Prop} {a : Nat → Nat} (S : GS)  (h_a_0_0 : ar S 0 0 = 0) (h_a_1_3 : ar S 1 3 = 0) (h_a_1_4 : ar S 1 4 = 0) (h_a_2_0 : ar S 2 0 = 3) (h_a_31_16 : ar S 31 16 = 1) (h_a_31_17 : ar S 31 17 = 0) (h_a_32_2 : ar S 32 2 = 0) (h_a_33_4 : ar S 33 4 = 0) (h_a_33_5 : ar S 33 5 = 0) (h_a_35_4 : ar S 35 4 = 0) (h_a_35_5 : ar S 35 5 = 0) (h_a_36_4 : ar S 36 4 = 0) (h_a_36_5 : ar S 36 5 = 0) (h_a_3_3 : ar S 3 3 = 0) (h_a_3_4 : ar S 3 4 = 0) (h_a_4_3 : ar S 4 3 = 0) (h_a_4_4 : ar S 4 4 = 0) (b : Bz p R s m args meth c D cy T0 tB tE A 9 cX12_plainest RX12 (some .long) "plainest" 2 47 0 0) (k : Z p l e R s m args below meth c D A 9 Q 0 0 (mw cy a (su (su (su S 34 0 3) 34 1 3) 34 2 3)) [(6, .int 2), (7, .int 3), (8, .int 3), (5, .int 35), (3, .long 1649317774848), (0, .ref (a 0)), (1, .long 1649317774848)] 183 [.int 0]) : Z p l e R s m args below meth c D A 9 Q 0 0 (mw cy a (su (su (su S 34 0 3) 34 1 3) 34 2 3)) [(7, .int 1), (8, .int 5), (6, .int 1), (5, .int 35), (3, .long 1649317774848), (0, .ref (a 0)), (1, .long 1649317774848)] 212 [.int 1, .int 5, .ref (a 0), .int 3] := by
  refine z_calli b (z_runV (q0 := 0) (As := [.int 5, .int 1]) (st := [.int 3]) b (c_X12_renamed_18 (su (su (su S 34 0 3) 34 1 3) 34 2 3) h_a_31_16) cf_X12_renamed (mw_0 cy a (su (su (su S 34 0 3) 34 1 3) 34 2 3)) rfl wm_X12_445 wi_X12_renamed ws_X12_renamed dX12_plainest_212 rfl (Nat.le_of_ble_eq_true rfl) ⟨by decide, by decide, by decide, by decide⟩) (fun r11649 u11650 h11648 => ?_)
  obtain ⟨rfl, rfl⟩ := h11648
  refine z_iadd (v := 4) b dX12_plainest_215 (by decide) ?_
  refine z_istore (lv' := [(8, .int 4), (7, .int 1), (6, .int 1), (5, .int 35), (3, .long 1649317774848), (0, .ref (a 0)), (1, .long 1649317774848)]) b dX12_plainest_216 (by decide) rfl ?_
  refine z_aload_n b dX12_plainest_218 rfl rfl ?_
  refine z_get (q0 := 0) (k9 := 1) (v := .ref (a 2)) b (mw_0 cy a (su (su (su S 34 0 3) 34 1 3) 34 2 3)) rfl in_X12 (by decide) wf_X12_17 rfl dX12_plainest_219 ?_
  refine z_iload b dX12_plainest_222 rfl ?_
  refine z_aload_n b dX12_plainest_224 rfl rfl ?_
  refine z_get (q0 := 0) (k9 := 60) (v := .ref (a 35)) b (mw_0 cy a (su (su (su S 34 0 3) 34 1 3) 34 2 3)) rfl in_X12 (by decide) wf_X12_122 rfl dX12_plainest_225 ?_
  refine z_iconst (v := 3) b dX12_plainest_228 (by decide) ?_
  refine z_iload b dX12_plainest_229 rfl ?_
  refine z_imul (v := 3) b dX12_plainest_231 (by decide) ?_
  refine z_iload b dX12_plainest_232 rfl ?_
  refine z_iadd (v := 4) b dX12_plainest_234 (by decide) ?_
  refine y_iald (q0 := 35) (j := 4) (v := (ar (su (su (su S 34 0 3) 34 1 3) 34 2 3) 33 4)) b (mw_35 cy a (su (su (su S 34 0 3) 34 1 3) 34 2 3)) (by decide) rfl dX12_plainest_235 ?_
  refine z_eqi h_a_33_4 ?_
  refine y_iast (q0 := 2) (j := 4) b (mw_2 cy a (su (su (su S 34 0 3) 34 1 3) 34 2 3)) (by decide) dX12_plainest_236 ((mwa_2 cy a (su (su (su S 34 0 3) 34 1 3) 34 2 3) 4 0).trans (congrArg (mw cy a) (su_same h_a_1_4))) ?_
  refine z_aload_n b dX12_plainest_237 rfl rfl ?_
  refine z_get (q0 := 0) (k9 := 3) (v := .ref (a 4)) b (mw_0 cy a (su (su (su S 34 0 3) 34 1 3) 34 2 3)) rfl in_X12 (by decide) wf_X12_23 rfl dX12_plainest_238 ?_
  refine z_iload b dX12_plainest_241 rfl ?_
  refine z_aload_n b dX12_plainest_243 rfl rfl ?_
  refine z_get (q0 := 0) (k9 := 62) (v := .ref (a 37)) b (mw_0 cy a (su (su (su S 34 0 3) 34 1 3) 34 2 3)) rfl in_X12 (by decide) wf_X12_128 rfl dX12_plainest_244 ?_
  refine z_iconst (v := 3) b dX12_plainest_247 (by decide) ?_
  refine z_iload b dX12_plainest_248 rfl ?_
  refine z_imul (v := 3) b dX12_plainest_250 (by decide) ?_
  refine z_iload b dX12_plainest_251 rfl ?_
  refine z_iadd (v := 4) b dX12_plainest_253 (by decide) ?_
  refine y_zald (q0 := 37) (j := 4) (v := (ar (su (su (su S 34 0 3) 34 1 3) 34 2 3) 35 4)) b (mw_37 cy a (su (su (su S 34 0 3) 34 1 3) 34 2 3)) (by decide) rfl dX12_plainest_254 ?_
  refine z_eqi h_a_35_4 ?_
  refine y_zast (q0 := 4) (j := 4) b (mw_4 cy a (su (su (su S 34 0 3) 34 1 3) 34 2 3)) (by decide) (by decide) dX12_plainest_255 ((mwa_4 cy a (su (su (su S 34 0 3) 34 1 3) 34 2 3) 4 0).trans (congrArg (mw cy a) (su_same h_a_3_4))) ?_
  refine z_aload_n b dX12_plainest_256 rfl rfl ?_
  refine z_get (q0 := 0) (k9 := 4) (v := .ref (a 5)) b (mw_0 cy a (su (su (su S 34 0 3) 34 1 3) 34 2 3)) rfl in_X12 (by decide) wf_X12_27 rfl dX12_plainest_257 ?_
  refine z_iload b dX12_plainest_260 rfl ?_
  refine z_aload_n b dX12_plainest_262 rfl rfl ?_
  refine z_get (q0 := 0) (k9 := 63) (v := .ref (a 38)) b (mw_0 cy a (su (su (su S 34 0 3) 34 1 3) 34 2 3)) rfl in_X12 (by decide) wf_X12_131 rfl dX12_plainest_263 ?_
  refine z_iconst (v := 3) b dX12_plainest_266 (by decide) ?_
  refine z_iload b dX12_plainest_267 rfl ?_
  refine z_imul (v := 3) b dX12_plainest_269 (by decide) ?_
  refine z_iload b dX12_plainest_270 rfl ?_
  refine z_iadd (v := 4) b dX12_plainest_272 (by decide) ?_
  refine y_zald (q0 := 38) (j := 4) (v := (ar (su (su (su S 34 0 3) 34 1 3) 34 2 3) 36 4)) b (mw_38 cy a (su (su (su S 34 0 3) 34 1 3) 34 2 3)) (by decide) rfl dX12_plainest_273 ?_
  refine z_eqi h_a_36_4 ?_
  refine y_zast (q0 := 5) (j := 4) b (mw_5 cy a (su (su (su S 34 0 3) 34 1 3) 34 2 3)) (by decide) (by decide) dX12_plainest_274 ((mwa_5 cy a (su (su (su S 34 0 3) 34 1 3) 34 2 3) 4 0).trans (congrArg (mw cy a) (su_same h_a_4_4))) ?_
  refine z_iinc (k9 := 1) (v := 2) (lv' := [(7, .int 2), (8, .int 4), (6, .int 1), (5, .int 35), (3, .long 1649317774848), (0, .ref (a 0)), (1, .long 1649317774848)]) b dX12_plainest_275 rfl (by decide) (by decide) rfl ?_
  refine z_goto (tgt := 185) b dX12_plainest_278 (by decide) ?_
  refine z_iload b dX12_plainest_185 rfl ?_
  refine z_iconst (v := 3) b dX12_plainest_187 (by decide) ?_
  refine z_icmp_ge_f (tgt := 281) b dX12_plainest_188 (by decide) (by decide) ?_
  refine z_iconst (v := 3) b dX12_plainest_191 (by decide) ?_
  refine z_aload_n b dX12_plainest_192 rfl rfl ?_
  refine z_iload b dX12_plainest_193 rfl ?_
  refine z_bipush (v := 6) b dX12_plainest_195 (by decide) ?_
  refine z_idiv (v := 5) b dX12_plainest_197 (by decide) (by decide) ?_
  refine z_iload b dX12_plainest_198 rfl ?_
  refine z_calli b (z_runV (q0 := 0) (As := [.int 5, .int 1]) (st := [.int 3]) b (c_X12_renamed_18 (su (su (su S 34 0 3) 34 1 3) 34 2 3) h_a_31_16) cf_X12_renamed (mw_0 cy a (su (su (su S 34 0 3) 34 1 3) 34 2 3)) rfl wm_X12_445 wi_X12_renamed ws_X12_renamed dX12_plainest_200 rfl (Nat.le_of_ble_eq_true rfl) ⟨by decide, by decide, by decide, by decide⟩) (fun r11652 u11653 h11651 => ?_)
  obtain ⟨rfl, rfl⟩ := h11651
  refine z_imul (v := 3) b dX12_plainest_203 (by decide) ?_
  refine z_aload_n b dX12_plainest_204 rfl rfl ?_
  refine z_iload b dX12_plainest_205 rfl ?_
  refine z_bipush (v := 6) b dX12_plainest_207 (by decide) ?_
  refine z_idiv (v := 5) b dX12_plainest_209 (by decide) (by decide) ?_
  refine z_iload b dX12_plainest_210 rfl ?_
  refine z_calli b (z_runV (q0 := 0) (As := [.int 5, .int 2]) (st := [.int 3]) b (c_X12_renamed_19 (su (su (su S 34 0 3) 34 1 3) 34 2 3) h_a_31_17) cf_X12_renamed (mw_0 cy a (su (su (su S 34 0 3) 34 1 3) 34 2 3)) rfl wm_X12_445 wi_X12_renamed ws_X12_renamed dX12_plainest_212 rfl (Nat.le_of_ble_eq_true rfl) ⟨by decide, by decide, by decide, by decide⟩) (fun r11655 u11656 h11654 => ?_)
  obtain ⟨rfl, rfl⟩ := h11654
  refine z_iadd (v := 3) b dX12_plainest_215 (by decide) ?_
  refine z_istore (lv' := [(8, .int 3), (7, .int 2), (6, .int 1), (5, .int 35), (3, .long 1649317774848), (0, .ref (a 0)), (1, .long 1649317774848)]) b dX12_plainest_216 (by decide) rfl ?_
  refine z_aload_n b dX12_plainest_218 rfl rfl ?_
  refine z_get (q0 := 0) (k9 := 1) (v := .ref (a 2)) b (mw_0 cy a (su (su (su S 34 0 3) 34 1 3) 34 2 3)) rfl in_X12 (by decide) wf_X12_17 rfl dX12_plainest_219 ?_
  refine z_iload b dX12_plainest_222 rfl ?_
  refine z_aload_n b dX12_plainest_224 rfl rfl ?_
  refine z_get (q0 := 0) (k9 := 60) (v := .ref (a 35)) b (mw_0 cy a (su (su (su S 34 0 3) 34 1 3) 34 2 3)) rfl in_X12 (by decide) wf_X12_122 rfl dX12_plainest_225 ?_
  refine z_iconst (v := 3) b dX12_plainest_228 (by decide) ?_
  refine z_iload b dX12_plainest_229 rfl ?_
  refine z_imul (v := 3) b dX12_plainest_231 (by decide) ?_
  refine z_iload b dX12_plainest_232 rfl ?_
  refine z_iadd (v := 5) b dX12_plainest_234 (by decide) ?_
  refine y_iald (q0 := 35) (j := 5) (v := (ar (su (su (su S 34 0 3) 34 1 3) 34 2 3) 33 5)) b (mw_35 cy a (su (su (su S 34 0 3) 34 1 3) 34 2 3)) (by decide) rfl dX12_plainest_235 ?_
  refine z_eqi h_a_33_5 ?_
  refine y_iast (q0 := 2) (j := 3) b (mw_2 cy a (su (su (su S 34 0 3) 34 1 3) 34 2 3)) (by decide) dX12_plainest_236 ((mwa_2 cy a (su (su (su S 34 0 3) 34 1 3) 34 2 3) 3 0).trans (congrArg (mw cy a) (su_same h_a_1_3))) ?_
  refine z_aload_n b dX12_plainest_237 rfl rfl ?_
  refine z_get (q0 := 0) (k9 := 3) (v := .ref (a 4)) b (mw_0 cy a (su (su (su S 34 0 3) 34 1 3) 34 2 3)) rfl in_X12 (by decide) wf_X12_23 rfl dX12_plainest_238 ?_
  refine z_iload b dX12_plainest_241 rfl ?_
  refine z_aload_n b dX12_plainest_243 rfl rfl ?_
  refine z_get (q0 := 0) (k9 := 62) (v := .ref (a 37)) b (mw_0 cy a (su (su (su S 34 0 3) 34 1 3) 34 2 3)) rfl in_X12 (by decide) wf_X12_128 rfl dX12_plainest_244 ?_
  refine z_iconst (v := 3) b dX12_plainest_247 (by decide) ?_
  refine z_iload b dX12_plainest_248 rfl ?_
  refine z_imul (v := 3) b dX12_plainest_250 (by decide) ?_
  refine z_iload b dX12_plainest_251 rfl ?_
  refine z_iadd (v := 5) b dX12_plainest_253 (by decide) ?_
  refine y_zald (q0 := 37) (j := 5) (v := (ar (su (su (su S 34 0 3) 34 1 3) 34 2 3) 35 5)) b (mw_37 cy a (su (su (su S 34 0 3) 34 1 3) 34 2 3)) (by decide) rfl dX12_plainest_254 ?_
  refine z_eqi h_a_35_5 ?_
  refine y_zast (q0 := 4) (j := 3) b (mw_4 cy a (su (su (su S 34 0 3) 34 1 3) 34 2 3)) (by decide) (by decide) dX12_plainest_255 ((mwa_4 cy a (su (su (su S 34 0 3) 34 1 3) 34 2 3) 3 0).trans (congrArg (mw cy a) (su_same h_a_3_3))) ?_
  refine z_aload_n b dX12_plainest_256 rfl rfl ?_
  refine z_get (q0 := 0) (k9 := 4) (v := .ref (a 5)) b (mw_0 cy a (su (su (su S 34 0 3) 34 1 3) 34 2 3)) rfl in_X12 (by decide) wf_X12_27 rfl dX12_plainest_257 ?_
  refine z_iload b dX12_plainest_260 rfl ?_
  refine z_aload_n b dX12_plainest_262 rfl rfl ?_
  refine z_get (q0 := 0) (k9 := 63) (v := .ref (a 38)) b (mw_0 cy a (su (su (su S 34 0 3) 34 1 3) 34 2 3)) rfl in_X12 (by decide) wf_X12_131 rfl dX12_plainest_263 ?_
  refine z_iconst (v := 3) b dX12_plainest_266 (by decide) ?_
  refine z_iload b dX12_plainest_267 rfl ?_
  refine z_imul (v := 3) b dX12_plainest_269 (by decide) ?_
  refine z_iload b dX12_plainest_270 rfl ?_
  refine z_iadd (v := 5) b dX12_plainest_272 (by decide) ?_
  refine y_zald (q0 := 38) (j := 5) (v := (ar (su (su (su S 34 0 3) 34 1 3) 34 2 3) 36 5)) b (mw_38 cy a (su (su (su S 34 0 3) 34 1 3) 34 2 3)) (by decide) rfl dX12_plainest_273 ?_
  refine z_eqi h_a_36_5 ?_
  refine y_zast (q0 := 5) (j := 3) b (mw_5 cy a (su (su (su S 34 0 3) 34 1 3) 34 2 3)) (by decide) (by decide) dX12_plainest_274 ((mwa_5 cy a (su (su (su S 34 0 3) 34 1 3) 34 2 3) 3 0).trans (congrArg (mw cy a) (su_same h_a_4_3))) ?_
  refine z_iinc (k9 := 1) (v := 3) (lv' := [(7, .int 3), (8, .int 3), (6, .int 1), (5, .int 35), (3, .long 1649317774848), (0, .ref (a 0)), (1, .long 1649317774848)]) b dX12_plainest_275 rfl (by decide) (by decide) rfl ?_
  refine z_goto (tgt := 185) b dX12_plainest_278 (by decide) ?_
  refine z_iload b dX12_plainest_185 rfl ?_
  refine z_iconst (v := 3) b dX12_plainest_187 (by decide) ?_
  refine z_icmp_ge_t (tgt := 281) b dX12_plainest_188 (by decide) (by decide) ?_
  refine z_iinc (k9 := 2) (v := 2) (lv' := [(6, .int 2), (7, .int 3), (8, .int 3), (5, .int 35), (3, .long 1649317774848), (0, .ref (a 0)), (1, .long 1649317774848)]) b dX12_plainest_281 rfl (by decide) (by decide) rfl ?_
  refine z_goto (tgt := 121) b dX12_plainest_284 (by decide) ?_
  refine z_iload b dX12_plainest_121 rfl ?_
  refine z_iconst (v := 3) b dX12_plainest_123 (by decide) ?_
  refine z_icmp_ge_f (tgt := 287) b dX12_plainest_124 (by decide) (by decide) ?_
  refine z_aload_n b dX12_plainest_127 rfl rfl ?_
  refine z_get (q0 := 0) (k9 := 0) (v := .ref (a 1)) b (mw_0 cy a (su (su (su S 34 0 3) 34 1 3) 34 2 3)) rfl in_X12 (by decide) wf_X12_13 rfl dX12_plainest_128 ?_
  refine z_aload_n b dX12_plainest_131 rfl rfl ?_
  refine z_iload b dX12_plainest_132 rfl ?_
  refine z_bipush (v := 6) b dX12_plainest_134 (by decide) ?_
  refine z_idiv (v := 5) b dX12_plainest_136 (by decide) (by decide) ?_
  refine z_iload b dX12_plainest_137 rfl ?_
  refine z_calli b (z_runV (q0 := 0) (As := [.int 5, .int 2]) (st := [.ref (a 1)]) b (c_X12_renamed_19 (su (su (su S 34 0 3) 34 1 3) 34 2 3) h_a_31_17) cf_X12_renamed (mw_0 cy a (su (su (su S 34 0 3) 34 1 3) 34 2 3)) rfl wm_X12_445 wi_X12_renamed ws_X12_renamed dX12_plainest_139 rfl (Nat.le_of_ble_eq_true rfl) ⟨by decide, by decide, by decide, by decide⟩) (fun r11658 u11659 h11657 => ?_)
  obtain ⟨rfl, rfl⟩ := h11657
  refine z_aload_n b dX12_plainest_142 rfl rfl ?_
  refine z_get (q0 := 0) (k9 := 59) (v := .ref (a 34)) b (mw_0 cy a (su (su (su S 34 0 3) 34 1 3) 34 2 3)) rfl in_X12 (by decide) wf_X12_119 rfl dX12_plainest_143 ?_
  refine z_iload b dX12_plainest_146 rfl ?_
  refine y_iald (q0 := 34) (j := 2) (v := (ar (su (su (su S 34 0 3) 34 1 3) 34 2 3) 32 2)) b (mw_34 cy a (su (su (su S 34 0 3) 34 1 3) 34 2 3)) (by decide) rfl dX12_plainest_148 ?_
  refine z_eqi h_a_32_2 ?_
  refine y_iast (q0 := 1) (j := 0) b (mw_1 cy a (su (su (su S 34 0 3) 34 1 3) 34 2 3)) (by decide) dX12_plainest_149 ((mwa_1 cy a (su (su (su S 34 0 3) 34 1 3) 34 2 3) 0 0).trans (congrArg (mw cy a) (su_same h_a_0_0))) ?_
  refine z_aload_n b dX12_plainest_150 rfl rfl ?_
  refine z_get (q0 := 0) (k9 := 2) (v := .ref (a 3)) b (mw_0 cy a (su (su (su S 34 0 3) 34 1 3) 34 2 3)) rfl in_X12 (by decide) wf_X12_20 rfl dX12_plainest_151 ?_
  refine z_aload_n b dX12_plainest_154 rfl rfl ?_
  refine z_iload b dX12_plainest_155 rfl ?_
  refine z_bipush (v := 6) b dX12_plainest_157 (by decide) ?_
  refine z_irem (v := 5) b dX12_plainest_159 (by decide) (by decide) ?_
  refine z_iload b dX12_plainest_160 rfl ?_
  refine z_calli b (z_runV (q0 := 0) (As := [.int 5, .int 2]) (st := [.ref (a 3)]) b (c_X12_renamed_19 (su (su (su S 34 0 3) 34 1 3) 34 2 3) h_a_31_17) cf_X12_renamed (mw_0 cy a (su (su (su S 34 0 3) 34 1 3) 34 2 3)) rfl wm_X12_445 wi_X12_renamed ws_X12_renamed dX12_plainest_162 rfl (Nat.le_of_ble_eq_true rfl) ⟨by decide, by decide, by decide, by decide⟩) (fun r11661 u11662 h11660 => ?_)
  obtain ⟨rfl, rfl⟩ := h11660
  refine z_aload_n b dX12_plainest_165 rfl rfl ?_
  refine z_iload b dX12_plainest_166 rfl ?_
  refine z_bipush (v := 6) b dX12_plainest_168 (by decide) ?_
  refine z_idiv (v := 5) b dX12_plainest_170 (by decide) (by decide) ?_
  refine z_aload_n b dX12_plainest_171 rfl rfl ?_
  refine z_get (q0 := 0) (k9 := 61) (v := .ref (a 36)) b (mw_0 cy a (su (su (su S 34 0 3) 34 1 3) 34 2 3)) rfl in_X12 (by decide) wf_X12_125 rfl dX12_plainest_172 ?_
  refine z_iload b dX12_plainest_175 rfl ?_
  refine y_iald (q0 := 36) (j := 2) (v := 3) b (mw_36 cy a (su (su (su S 34 0 3) 34 1 3) 34 2 3)) (by decide) rfl dX12_plainest_177 ?_
  refine z_calli b (z_runV (q0 := 0) (As := [.int 5, .int 3]) (st := [.int 0, .ref (a 3)]) b (c_X12_renamed_24 (su (su (su S 34 0 3) 34 1 3) 34 2 3) ) cf_X12_renamed (mw_0 cy a (su (su (su S 34 0 3) 34 1 3) 34 2 3)) rfl wm_X12_445 wi_X12_renamed ws_X12_renamed dX12_plainest_178 rfl (Nat.le_of_ble_eq_true rfl) ⟨by decide, by decide, by decide, by decide⟩) (fun r11664 u11665 h11663 => ?_)
  obtain ⟨rfl, rfl⟩ := h11663
  refine y_iast (q0 := 3) (j := 0) b (mw_3 cy a (su (su (su S 34 0 3) 34 1 3) 34 2 3)) (by decide) dX12_plainest_181 ((mwa_3 cy a (su (su (su S 34 0 3) 34 1 3) 34 2 3) 0 3).trans (congrArg (mw cy a) (su_same h_a_2_0))) ?_
  refine z_iconst (v := 0) b dX12_plainest_182 (by decide) ?_
  exact k

set_option maxHeartbeats 4000000 in
set_option maxRecDepth 100000 in
theorem ch_X12_plainest_346 {p : Program} {l : Launch} {e : Env} {R : Room} {s : State} {m : MethodId} {args : Array Value} {below : List Frame} {meth : Method} {c : Code} {D : va_G} {cy : Nat → ClassId} {T0 tB tE : Nat} {A : Nat → Prop} {Q : State → Prop} {a : Nat → Nat} (S : GS)  (h_a_1_1 : ar S 1 1 = 0) (h_a_1_2 : ar S 1 2 = 0) (h_a_31_15 : ar S 31 15 = 2) (h_a_31_16 : ar S 31 16 = 1) (h_a_31_17 : ar S 31 17 = 0) (h_a_33_6 : ar S 33 6 = 0) (h_a_33_7 : ar S 33 7 = 0) (h_a_35_6 : ar S 35 6 = 0) (h_a_35_7 : ar S 35 7 = 0) (h_a_36_6 : ar S 36 6 = 0) (h_a_36_7 : ar S 36 7 = 0) (h_a_3_1 : ar S 3 1 = 0) (h_a_3_2 : ar S 3 2 = 0) (h_a_4_1 : ar S 4 1 = 0) (h_a_4_2 : ar S 4 2 = 0) (b : Bz p R s m args meth c D cy T0 tB tE A 9 cX12_plainest RX12 (some .long) "plainest" 2 47 0 0) (k : Z p l e R s m args below meth c D A 9 Q 0 0 (mw cy a (su (su (su S 34 0 3) 34 1 3) 34 2 3)) [(8, .int 0), (7, .int 2), (6, .int 2), (5, .int 35), (3, .long 1649317774848), (0, .ref (a 0)), (1, .long 1649317774848)] 228 [.ref (a 35), .int 0, .ref (a 2)]) : Z p l e R s m args below meth c D A 9 Q 0 0 (mw cy a (su (su (su S 34 0 3) 34 1 3) 34 2 3)) [(6, .int 2), (7, .int 3), (8, .int 3), (5, .int 35), (3, .long 1649317774848), (0, .ref (a 0)), (1, .long 1649317774848)] 183 [.int 0] := by
  refine z_istore (lv' := [(7, .int 0), (6, .int 2), (8, .int 3), (5, .int 35), (3, .long 1649317774848), (0, .ref (a 0)), (1, .long 1649317774848)]) b dX12_plainest_183 (by decide) rfl ?_
  refine z_iload b dX12_plainest_185 rfl ?_
  refine z_iconst (v := 3) b dX12_plainest_187 (by decide) ?_
  refine z_icmp_ge_f (tgt := 281) b dX12_plainest_188 (by decide) (by decide) ?_
  refine z_iconst (v := 3) b dX12_plainest_191 (by decide) ?_
  refine z_aload_n b dX12_plainest_192 rfl rfl ?_
  refine z_iload b dX12_plainest_193 rfl ?_
  refine z_bipush (v := 6) b dX12_plainest_195 (by decide) ?_
  refine z_idiv (v := 5) b dX12_plainest_197 (by decide) (by decide) ?_
  refine z_iload b dX12_plainest_198 rfl ?_
  refine z_calli b (z_runV (q0 := 0) (As := [.int 5, .int 2]) (st := [.int 3]) b (c_X12_renamed_19 (su (su (su S 34 0 3) 34 1 3) 34 2 3) h_a_31_17) cf_X12_renamed (mw_0 cy a (su (su (su S 34 0 3) 34 1 3) 34 2 3)) rfl wm_X12_445 wi_X12_renamed ws_X12_renamed dX12_plainest_200 rfl (Nat.le_of_ble_eq_true rfl) ⟨by decide, by decide, by decide, by decide⟩) (fun r11667 u11668 h11666 => ?_)
  obtain ⟨rfl, rfl⟩ := h11666
  refine z_imul (v := 0) b dX12_plainest_203 (by decide) ?_
  refine z_aload_n b dX12_plainest_204 rfl rfl ?_
  refine z_iload b dX12_plainest_205 rfl ?_
  refine z_bipush (v := 6) b dX12_plainest_207 (by decide) ?_
  refine z_idiv (v := 5) b dX12_plainest_209 (by decide) (by decide) ?_
  refine z_iload b dX12_plainest_210 rfl ?_
  refine z_calli b (z_runV (q0 := 0) (As := [.int 5, .int 0]) (st := [.int 0]) b (c_X12_renamed_17 (su (su (su S 34 0 3) 34 1 3) 34 2 3) h_a_31_15) cf_X12_renamed (mw_0 cy a (su (su (su S 34 0 3) 34 1 3) 34 2 3)) rfl wm_X12_445 wi_X12_renamed ws_X12_renamed dX12_plainest_212 rfl (Nat.le_of_ble_eq_true rfl) ⟨by decide, by decide, by decide, by decide⟩) (fun r11670 u11671 h11669 => ?_)
  obtain ⟨rfl, rfl⟩ := h11669
  refine z_iadd (v := 2) b dX12_plainest_215 (by decide) ?_
  refine z_istore (lv' := [(8, .int 2), (7, .int 0), (6, .int 2), (5, .int 35), (3, .long 1649317774848), (0, .ref (a 0)), (1, .long 1649317774848)]) b dX12_plainest_216 (by decide) rfl ?_
  refine z_aload_n b dX12_plainest_218 rfl rfl ?_
  refine z_get (q0 := 0) (k9 := 1) (v := .ref (a 2)) b (mw_0 cy a (su (su (su S 34 0 3) 34 1 3) 34 2 3)) rfl in_X12 (by decide) wf_X12_17 rfl dX12_plainest_219 ?_
  refine z_iload b dX12_plainest_222 rfl ?_
  refine z_aload_n b dX12_plainest_224 rfl rfl ?_
  refine z_get (q0 := 0) (k9 := 60) (v := .ref (a 35)) b (mw_0 cy a (su (su (su S 34 0 3) 34 1 3) 34 2 3)) rfl in_X12 (by decide) wf_X12_122 rfl dX12_plainest_225 ?_
  refine z_iconst (v := 3) b dX12_plainest_228 (by decide) ?_
  refine z_iload b dX12_plainest_229 rfl ?_
  refine z_imul (v := 6) b dX12_plainest_231 (by decide) ?_
  refine z_iload b dX12_plainest_232 rfl ?_
  refine z_iadd (v := 6) b dX12_plainest_234 (by decide) ?_
  refine y_iald (q0 := 35) (j := 6) (v := (ar (su (su (su S 34 0 3) 34 1 3) 34 2 3) 33 6)) b (mw_35 cy a (su (su (su S 34 0 3) 34 1 3) 34 2 3)) (by decide) rfl dX12_plainest_235 ?_
  refine z_eqi h_a_33_6 ?_
  refine y_iast (q0 := 2) (j := 2) b (mw_2 cy a (su (su (su S 34 0 3) 34 1 3) 34 2 3)) (by decide) dX12_plainest_236 ((mwa_2 cy a (su (su (su S 34 0 3) 34 1 3) 34 2 3) 2 0).trans (congrArg (mw cy a) (su_same h_a_1_2))) ?_
  refine z_aload_n b dX12_plainest_237 rfl rfl ?_
  refine z_get (q0 := 0) (k9 := 3) (v := .ref (a 4)) b (mw_0 cy a (su (su (su S 34 0 3) 34 1 3) 34 2 3)) rfl in_X12 (by decide) wf_X12_23 rfl dX12_plainest_238 ?_
  refine z_iload b dX12_plainest_241 rfl ?_
  refine z_aload_n b dX12_plainest_243 rfl rfl ?_
  refine z_get (q0 := 0) (k9 := 62) (v := .ref (a 37)) b (mw_0 cy a (su (su (su S 34 0 3) 34 1 3) 34 2 3)) rfl in_X12 (by decide) wf_X12_128 rfl dX12_plainest_244 ?_
  refine z_iconst (v := 3) b dX12_plainest_247 (by decide) ?_
  refine z_iload b dX12_plainest_248 rfl ?_
  refine z_imul (v := 6) b dX12_plainest_250 (by decide) ?_
  refine z_iload b dX12_plainest_251 rfl ?_
  refine z_iadd (v := 6) b dX12_plainest_253 (by decide) ?_
  refine y_zald (q0 := 37) (j := 6) (v := (ar (su (su (su S 34 0 3) 34 1 3) 34 2 3) 35 6)) b (mw_37 cy a (su (su (su S 34 0 3) 34 1 3) 34 2 3)) (by decide) rfl dX12_plainest_254 ?_
  refine z_eqi h_a_35_6 ?_
  refine y_zast (q0 := 4) (j := 2) b (mw_4 cy a (su (su (su S 34 0 3) 34 1 3) 34 2 3)) (by decide) (by decide) dX12_plainest_255 ((mwa_4 cy a (su (su (su S 34 0 3) 34 1 3) 34 2 3) 2 0).trans (congrArg (mw cy a) (su_same h_a_3_2))) ?_
  refine z_aload_n b dX12_plainest_256 rfl rfl ?_
  refine z_get (q0 := 0) (k9 := 4) (v := .ref (a 5)) b (mw_0 cy a (su (su (su S 34 0 3) 34 1 3) 34 2 3)) rfl in_X12 (by decide) wf_X12_27 rfl dX12_plainest_257 ?_
  refine z_iload b dX12_plainest_260 rfl ?_
  refine z_aload_n b dX12_plainest_262 rfl rfl ?_
  refine z_get (q0 := 0) (k9 := 63) (v := .ref (a 38)) b (mw_0 cy a (su (su (su S 34 0 3) 34 1 3) 34 2 3)) rfl in_X12 (by decide) wf_X12_131 rfl dX12_plainest_263 ?_
  refine z_iconst (v := 3) b dX12_plainest_266 (by decide) ?_
  refine z_iload b dX12_plainest_267 rfl ?_
  refine z_imul (v := 6) b dX12_plainest_269 (by decide) ?_
  refine z_iload b dX12_plainest_270 rfl ?_
  refine z_iadd (v := 6) b dX12_plainest_272 (by decide) ?_
  refine y_zald (q0 := 38) (j := 6) (v := (ar (su (su (su S 34 0 3) 34 1 3) 34 2 3) 36 6)) b (mw_38 cy a (su (su (su S 34 0 3) 34 1 3) 34 2 3)) (by decide) rfl dX12_plainest_273 ?_
  refine z_eqi h_a_36_6 ?_
  refine y_zast (q0 := 5) (j := 2) b (mw_5 cy a (su (su (su S 34 0 3) 34 1 3) 34 2 3)) (by decide) (by decide) dX12_plainest_274 ((mwa_5 cy a (su (su (su S 34 0 3) 34 1 3) 34 2 3) 2 0).trans (congrArg (mw cy a) (su_same h_a_4_2))) ?_
  refine z_iinc (k9 := 1) (v := 1) (lv' := [(7, .int 1), (8, .int 2), (6, .int 2), (5, .int 35), (3, .long 1649317774848), (0, .ref (a 0)), (1, .long 1649317774848)]) b dX12_plainest_275 rfl (by decide) (by decide) rfl ?_
  refine z_goto (tgt := 185) b dX12_plainest_278 (by decide) ?_
  refine z_iload b dX12_plainest_185 rfl ?_
  refine z_iconst (v := 3) b dX12_plainest_187 (by decide) ?_
  refine z_icmp_ge_f (tgt := 281) b dX12_plainest_188 (by decide) (by decide) ?_
  refine z_iconst (v := 3) b dX12_plainest_191 (by decide) ?_
  refine z_aload_n b dX12_plainest_192 rfl rfl ?_
  refine z_iload b dX12_plainest_193 rfl ?_
  refine z_bipush (v := 6) b dX12_plainest_195 (by decide) ?_
  refine z_idiv (v := 5) b dX12_plainest_197 (by decide) (by decide) ?_
  refine z_iload b dX12_plainest_198 rfl ?_
  refine z_calli b (z_runV (q0 := 0) (As := [.int 5, .int 2]) (st := [.int 3]) b (c_X12_renamed_19 (su (su (su S 34 0 3) 34 1 3) 34 2 3) h_a_31_17) cf_X12_renamed (mw_0 cy a (su (su (su S 34 0 3) 34 1 3) 34 2 3)) rfl wm_X12_445 wi_X12_renamed ws_X12_renamed dX12_plainest_200 rfl (Nat.le_of_ble_eq_true rfl) ⟨by decide, by decide, by decide, by decide⟩) (fun r11673 u11674 h11672 => ?_)
  obtain ⟨rfl, rfl⟩ := h11672
  refine z_imul (v := 0) b dX12_plainest_203 (by decide) ?_
  refine z_aload_n b dX12_plainest_204 rfl rfl ?_
  refine z_iload b dX12_plainest_205 rfl ?_
  refine z_bipush (v := 6) b dX12_plainest_207 (by decide) ?_
  refine z_idiv (v := 5) b dX12_plainest_209 (by decide) (by decide) ?_
  refine z_iload b dX12_plainest_210 rfl ?_
  refine z_calli b (z_runV (q0 := 0) (As := [.int 5, .int 1]) (st := [.int 0]) b (c_X12_renamed_18 (su (su (su S 34 0 3) 34 1 3) 34 2 3) h_a_31_16) cf_X12_renamed (mw_0 cy a (su (su (su S 34 0 3) 34 1 3) 34 2 3)) rfl wm_X12_445 wi_X12_renamed ws_X12_renamed dX12_plainest_212 rfl (Nat.le_of_ble_eq_true rfl) ⟨by decide, by decide, by decide, by decide⟩) (fun r11676 u11677 h11675 => ?_)
  obtain ⟨rfl, rfl⟩ := h11675
  refine z_iadd (v := 1) b dX12_plainest_215 (by decide) ?_
  refine z_istore (lv' := [(8, .int 1), (7, .int 1), (6, .int 2), (5, .int 35), (3, .long 1649317774848), (0, .ref (a 0)), (1, .long 1649317774848)]) b dX12_plainest_216 (by decide) rfl ?_
  refine z_aload_n b dX12_plainest_218 rfl rfl ?_
  refine z_get (q0 := 0) (k9 := 1) (v := .ref (a 2)) b (mw_0 cy a (su (su (su S 34 0 3) 34 1 3) 34 2 3)) rfl in_X12 (by decide) wf_X12_17 rfl dX12_plainest_219 ?_
  refine z_iload b dX12_plainest_222 rfl ?_
  refine z_aload_n b dX12_plainest_224 rfl rfl ?_
  refine z_get (q0 := 0) (k9 := 60) (v := .ref (a 35)) b (mw_0 cy a (su (su (su S 34 0 3) 34 1 3) 34 2 3)) rfl in_X12 (by decide) wf_X12_122 rfl dX12_plainest_225 ?_
  refine z_iconst (v := 3) b dX12_plainest_228 (by decide) ?_
  refine z_iload b dX12_plainest_229 rfl ?_
  refine z_imul (v := 6) b dX12_plainest_231 (by decide) ?_
  refine z_iload b dX12_plainest_232 rfl ?_
  refine z_iadd (v := 7) b dX12_plainest_234 (by decide) ?_
  refine y_iald (q0 := 35) (j := 7) (v := (ar (su (su (su S 34 0 3) 34 1 3) 34 2 3) 33 7)) b (mw_35 cy a (su (su (su S 34 0 3) 34 1 3) 34 2 3)) (by decide) rfl dX12_plainest_235 ?_
  refine z_eqi h_a_33_7 ?_
  refine y_iast (q0 := 2) (j := 1) b (mw_2 cy a (su (su (su S 34 0 3) 34 1 3) 34 2 3)) (by decide) dX12_plainest_236 ((mwa_2 cy a (su (su (su S 34 0 3) 34 1 3) 34 2 3) 1 0).trans (congrArg (mw cy a) (su_same h_a_1_1))) ?_
  refine z_aload_n b dX12_plainest_237 rfl rfl ?_
  refine z_get (q0 := 0) (k9 := 3) (v := .ref (a 4)) b (mw_0 cy a (su (su (su S 34 0 3) 34 1 3) 34 2 3)) rfl in_X12 (by decide) wf_X12_23 rfl dX12_plainest_238 ?_
  refine z_iload b dX12_plainest_241 rfl ?_
  refine z_aload_n b dX12_plainest_243 rfl rfl ?_
  refine z_get (q0 := 0) (k9 := 62) (v := .ref (a 37)) b (mw_0 cy a (su (su (su S 34 0 3) 34 1 3) 34 2 3)) rfl in_X12 (by decide) wf_X12_128 rfl dX12_plainest_244 ?_
  refine z_iconst (v := 3) b dX12_plainest_247 (by decide) ?_
  refine z_iload b dX12_plainest_248 rfl ?_
  refine z_imul (v := 6) b dX12_plainest_250 (by decide) ?_
  refine z_iload b dX12_plainest_251 rfl ?_
  refine z_iadd (v := 7) b dX12_plainest_253 (by decide) ?_
  refine y_zald (q0 := 37) (j := 7) (v := (ar (su (su (su S 34 0 3) 34 1 3) 34 2 3) 35 7)) b (mw_37 cy a (su (su (su S 34 0 3) 34 1 3) 34 2 3)) (by decide) rfl dX12_plainest_254 ?_
  refine z_eqi h_a_35_7 ?_
  refine y_zast (q0 := 4) (j := 1) b (mw_4 cy a (su (su (su S 34 0 3) 34 1 3) 34 2 3)) (by decide) (by decide) dX12_plainest_255 ((mwa_4 cy a (su (su (su S 34 0 3) 34 1 3) 34 2 3) 1 0).trans (congrArg (mw cy a) (su_same h_a_3_1))) ?_
  refine z_aload_n b dX12_plainest_256 rfl rfl ?_
  refine z_get (q0 := 0) (k9 := 4) (v := .ref (a 5)) b (mw_0 cy a (su (su (su S 34 0 3) 34 1 3) 34 2 3)) rfl in_X12 (by decide) wf_X12_27 rfl dX12_plainest_257 ?_
  refine z_iload b dX12_plainest_260 rfl ?_
  refine z_aload_n b dX12_plainest_262 rfl rfl ?_
  refine z_get (q0 := 0) (k9 := 63) (v := .ref (a 38)) b (mw_0 cy a (su (su (su S 34 0 3) 34 1 3) 34 2 3)) rfl in_X12 (by decide) wf_X12_131 rfl dX12_plainest_263 ?_
  refine z_iconst (v := 3) b dX12_plainest_266 (by decide) ?_
  refine z_iload b dX12_plainest_267 rfl ?_
  refine z_imul (v := 6) b dX12_plainest_269 (by decide) ?_
  refine z_iload b dX12_plainest_270 rfl ?_
  refine z_iadd (v := 7) b dX12_plainest_272 (by decide) ?_
  refine y_zald (q0 := 38) (j := 7) (v := (ar (su (su (su S 34 0 3) 34 1 3) 34 2 3) 36 7)) b (mw_38 cy a (su (su (su S 34 0 3) 34 1 3) 34 2 3)) (by decide) rfl dX12_plainest_273 ?_
  refine z_eqi h_a_36_7 ?_
  refine y_zast (q0 := 5) (j := 1) b (mw_5 cy a (su (su (su S 34 0 3) 34 1 3) 34 2 3)) (by decide) (by decide) dX12_plainest_274 ((mwa_5 cy a (su (su (su S 34 0 3) 34 1 3) 34 2 3) 1 0).trans (congrArg (mw cy a) (su_same h_a_4_1))) ?_
  refine z_iinc (k9 := 1) (v := 2) (lv' := [(7, .int 2), (8, .int 1), (6, .int 2), (5, .int 35), (3, .long 1649317774848), (0, .ref (a 0)), (1, .long 1649317774848)]) b dX12_plainest_275 rfl (by decide) (by decide) rfl ?_
  refine z_goto (tgt := 185) b dX12_plainest_278 (by decide) ?_
  refine z_iload b dX12_plainest_185 rfl ?_
  refine z_iconst (v := 3) b dX12_plainest_187 (by decide) ?_
  refine z_icmp_ge_f (tgt := 281) b dX12_plainest_188 (by decide) (by decide) ?_
  refine z_iconst (v := 3) b dX12_plainest_191 (by decide) ?_
  refine z_aload_n b dX12_plainest_192 rfl rfl ?_
  refine z_iload b dX12_plainest_193 rfl ?_
  refine z_bipush (v := 6) b dX12_plainest_195 (by decide) ?_
  refine z_idiv (v := 5) b dX12_plainest_197 (by decide) (by decide) ?_
  refine z_iload b dX12_plainest_198 rfl ?_
  refine z_calli b (z_runV (q0 := 0) (As := [.int 5, .int 2]) (st := [.int 3]) b (c_X12_renamed_19 (su (su (su S 34 0 3) 34 1 3) 34 2 3) h_a_31_17) cf_X12_renamed (mw_0 cy a (su (su (su S 34 0 3) 34 1 3) 34 2 3)) rfl wm_X12_445 wi_X12_renamed ws_X12_renamed dX12_plainest_200 rfl (Nat.le_of_ble_eq_true rfl) ⟨by decide, by decide, by decide, by decide⟩) (fun r11679 u11680 h11678 => ?_)
  obtain ⟨rfl, rfl⟩ := h11678
  refine z_imul (v := 0) b dX12_plainest_203 (by decide) ?_
  refine z_aload_n b dX12_plainest_204 rfl rfl ?_
  refine z_iload b dX12_plainest_205 rfl ?_
  refine z_bipush (v := 6) b dX12_plainest_207 (by decide) ?_
  refine z_idiv (v := 5) b dX12_plainest_209 (by decide) (by decide) ?_
  refine z_iload b dX12_plainest_210 rfl ?_
  refine z_calli b (z_runV (q0 := 0) (As := [.int 5, .int 2]) (st := [.int 0]) b (c_X12_renamed_19 (su (su (su S 34 0 3) 34 1 3) 34 2 3) h_a_31_17) cf_X12_renamed (mw_0 cy a (su (su (su S 34 0 3) 34 1 3) 34 2 3)) rfl wm_X12_445 wi_X12_renamed ws_X12_renamed dX12_plainest_212 rfl (Nat.le_of_ble_eq_true rfl) ⟨by decide, by decide, by decide, by decide⟩) (fun r11682 u11683 h11681 => ?_)
  obtain ⟨rfl, rfl⟩ := h11681
  refine z_iadd (v := 0) b dX12_plainest_215 (by decide) ?_
  refine z_istore (lv' := [(8, .int 0), (7, .int 2), (6, .int 2), (5, .int 35), (3, .long 1649317774848), (0, .ref (a 0)), (1, .long 1649317774848)]) b dX12_plainest_216 (by decide) rfl ?_
  refine z_aload_n b dX12_plainest_218 rfl rfl ?_
  refine z_get (q0 := 0) (k9 := 1) (v := .ref (a 2)) b (mw_0 cy a (su (su (su S 34 0 3) 34 1 3) 34 2 3)) rfl in_X12 (by decide) wf_X12_17 rfl dX12_plainest_219 ?_
  refine z_iload b dX12_plainest_222 rfl ?_
  refine z_aload_n b dX12_plainest_224 rfl rfl ?_
  refine z_get (q0 := 0) (k9 := 60) (v := .ref (a 35)) b (mw_0 cy a (su (su (su S 34 0 3) 34 1 3) 34 2 3)) rfl in_X12 (by decide) wf_X12_122 rfl dX12_plainest_225 ?_
  exact k

set_option maxHeartbeats 4000000 in
set_option maxRecDepth 100000 in
theorem c_X12_plainest {l : Launch} {D : va_G} {cy : Nat → ClassId} {T0 tB tE : Nat} {a : Nat → Nat} (S : GS)  (h_a_4_7 : ar S 4 7 = 0) (h_a_1_7 : ar S 1 7 = 0) (h_a_4_6 : ar S 4 6 = 0) (h_a_1_6 : ar S 1 6 = 0) (h_a_3_6 : ar S 3 6 = 0) (h_a_3_2 : ar S 3 2 = 0) (h_a_2_2 : ar S 2 2 = 3) (h_a_0_2 : ar S 0 2 = 0) (h_a_4_3 : ar S 4 3 = 0) (h_a_1_3 : ar S 1 3 = 0) (h_a_4_5 : ar S 4 5 = 0) (h_a_1_5 : ar S 1 5 = 0) (h_a_3_5 : ar S 3 5 = 0) (h_a_3_7 : ar S 3 7 = 0) (h_a_2_1 : ar S 2 1 = 3) (h_a_0_1 : ar S 0 1 = 0) (h_a_4_2 : ar S 4 2 = 0) (h_a_1_2 : ar S 1 2 = 0) (h_a_4_1 : ar S 4 1 = 0) (h_a_1_1 : ar S 1 1 = 0) (h_a_3_1 : ar S 3 1 = 0) (h_a_3_3 : ar S 3 3 = 0) (h_a_2_0 : ar S 2 0 = 3) (h_a_0_0 : ar S 0 0 = 0) (h_i_0 : fi S 0 = 0) (h_a_32_0 : ar S 32 0 = 0) (h_a_32_1 : ar S 32 1 = 0) (h_a_32_2 : ar S 32 2 = 0) (h_a_1_0 : ar S 1 0 = 0) (h_a_33_0 : ar S 33 0 = 0) (h_a_3_0 : ar S 3 0 = 0) (h_a_35_0 : ar S 35 0 = 0) (h_a_4_0 : ar S 4 0 = 0) (h_a_36_0 : ar S 36 0 = 0) (h_a_33_1 : ar S 33 1 = 0) (h_a_35_1 : ar S 35 1 = 0) (h_a_36_1 : ar S 36 1 = 0) (h_a_33_2 : ar S 33 2 = 0) (h_a_35_2 : ar S 35 2 = 0) (h_a_36_2 : ar S 36 2 = 0) (h_a_33_3 : ar S 33 3 = 0) (h_a_35_3 : ar S 35 3 = 0) (h_a_36_3 : ar S 36 3 = 0) (h_a_1_4 : ar S 1 4 = 0) (h_a_33_4 : ar S 33 4 = 0) (h_a_3_4 : ar S 3 4 = 0) (h_a_35_4 : ar S 35 4 = 0) (h_a_4_4 : ar S 4 4 = 0) (h_a_36_4 : ar S 36 4 = 0) (h_a_33_5 : ar S 33 5 = 0) (h_a_35_5 : ar S 35 5 = 0) (h_a_36_5 : ar S 36 5 = 0) (h_a_33_6 : ar S 33 6 = 0) (h_a_35_6 : ar S 35 6 = 0) (h_a_36_6 : ar S 36 6 = 0) (h_a_33_7 : ar S 33 7 = 0) (h_a_35_7 : ar S 35 7 = 0) (h_a_36_7 : ar S 36 7 = 0) (h_a_1_8 : ar S 1 8 = 0) (h_a_33_8 : ar S 33 8 = 0) (h_a_3_8 : ar S 3 8 = 0) (h_a_35_8 : ar S 35 8 = 0) (h_a_4_8 : ar S 4 8 = 0) (h_a_36_8 : ar S 36 8 = 0) (h_a_31_0 : ar S 31 0 = 0) (h_a_31_1 : ar S 31 1 = 1) (h_a_31_2 : ar S 31 2 = 2) (h_a_31_3 : ar S 31 3 = 0) (h_a_31_4 : ar S 31 4 = 2) (h_a_31_5 : ar S 31 5 = 1) (h_a_31_6 : ar S 31 6 = 1) (h_a_31_7 : ar S 31 7 = 0) (h_a_31_8 : ar S 31 8 = 2) (h_a_31_9 : ar S 31 9 = 1) (h_a_31_10 : ar S 31 10 = 2) (h_a_31_11 : ar S 31 11 = 0) (h_a_31_12 : ar S 31 12 = 2) (h_a_31_13 : ar S 31 13 = 0) (h_a_31_14 : ar S 31 14 = 1) (h_a_31_15 : ar S 31 15 = 2) (h_a_31_16 : ar S 31 16 = 1) (h_a_31_17 : ar S 31 17 = 0) : Ct l D cy T0 tB tE yX12_plainest cX12_plainest 9 (some .long) 2 47 0 0 (mw cy a S) [.ref (a 0), .long 1649317774848] (QL D (U := GS) (fun r u => 1649317774848 = r ∧ (su (su (su S 34 0 3) 34 1 3) 34 2 3) = u) (mw cy a)) := by
  refine Ct.ofZ RX12 "plainest" [(0, .ref (a 0)), (1, .long 1649317774848)] rfl rfl rfl rfl (Nat.le_of_ble_eq_true rfl) ?_
  intro p e R s m args below meth c A b
  refine ch_X12_plainest_175 S  h_a_0_0 h_a_0_1 h_a_0_2 h_a_1_0 h_a_1_1 h_a_1_2 h_a_1_3 h_a_1_5 h_a_1_6 h_a_1_7 h_a_2_0 h_a_2_1 h_a_2_2 h_a_32_0 h_a_32_1 h_a_32_2 h_a_33_0 h_a_33_1 h_a_35_0 h_a_35_1 h_a_36_0 h_a_36_1 h_a_3_0 h_a_3_1 h_a_3_2 h_a_3_3 h_a_3_5 h_a_3_6 h_a_3_7 h_a_4_0 h_a_4_1 h_a_4_2 h_a_4_3 h_a_4_5 h_a_4_6 h_a_4_7 h_i_0  b ?_
  refine ch_X12_plainest_176 S  h_a_1_2 h_a_1_3 h_a_1_4 h_a_1_5 h_a_1_6 h_a_33_2 h_a_33_3 h_a_33_4 h_a_33_5 h_a_33_6 h_a_35_2 h_a_35_3 h_a_35_4 h_a_35_5 h_a_35_6 h_a_36_2 h_a_36_3 h_a_36_4 h_a_36_5 h_a_3_2 h_a_3_3 h_a_3_4 h_a_3_5 h_a_3_6 h_a_4_2 h_a_4_3 h_a_4_4 h_a_4_5 h_a_4_6  b ?_
  refine ch_X12_plainest_177 S  h_a_0_0 h_a_1_0 h_a_1_7 h_a_1_8 h_a_2_0 h_a_31_0 h_a_32_0 h_a_33_0 h_a_33_7 h_a_33_8 h_a_35_7 h_a_35_8 h_a_36_6 h_a_36_7 h_a_36_8 h_a_3_7 h_a_3_8 h_a_4_7 h_a_4_8  b ?_
  refine ch_X12_plainest_178 S  h_a_1_1 h_a_1_2 h_a_31_0 h_a_31_1 h_a_31_2 h_a_33_1 h_a_33_2 h_a_35_0 h_a_35_1 h_a_35_2 h_a_36_0 h_a_36_1 h_a_36_2 h_a_3_0 h_a_3_1 h_a_3_2 h_a_4_0 h_a_4_1 h_a_4_2  b ?_
  refine ch_X12_plainest_179 S  h_a_0_1 h_a_1_3 h_a_1_4 h_a_2_1 h_a_31_0 h_a_31_1 h_a_32_1 h_a_33_3 h_a_33_4 h_a_35_3 h_a_36_3 h_a_3_3 h_a_4_3  b ?_
  refine ch_X12_plainest_180 S  h_a_0_2 h_a_1_5 h_a_2_2 h_a_31_0 h_a_31_1 h_a_31_2 h_a_32_2 h_a_33_5 h_a_35_4 h_a_35_5 h_a_36_4 h_a_36_5 h_a_3_4 h_a_3_5 h_a_4_4 h_a_4_5  b ?_
  refine ch_X12_plainest_181 S  h_a_1_6 h_a_1_7 h_a_1_8 h_a_31_1 h_a_31_2 h_a_33_6 h_a_33_7 h_a_33_8 h_a_35_6 h_a_35_7 h_a_35_8 h_a_36_6 h_a_36_7 h_a_3_6 h_a_3_7 h_a_3_8 h_a_4_6 h_a_4_7  b ?_
  refine ch_X12_plainest_182 S  h_a_0_0 h_a_0_1 h_a_0_2 h_a_1_0 h_a_1_1 h_a_1_2 h_a_1_3 h_a_1_5 h_a_1_6 h_a_1_7 h_a_2_0 h_a_2_1 h_a_2_2 h_a_31_0 h_a_31_3 h_a_32_0 h_a_33_0 h_a_35_0 h_a_36_0 h_a_36_8 h_a_3_0 h_a_3_1 h_a_3_5 h_a_3_6 h_a_4_0 h_a_4_1 h_a_4_2 h_a_4_3 h_a_4_5 h_a_4_6 h_a_4_7 h_a_4_8 h_i_0  b ?_
  refine ch_X12_plainest_183 S  h_a_0_1 h_a_1_1 h_a_1_2 h_a_31_0 h_a_31_1 h_a_31_2 h_a_31_4 h_a_32_1 h_a_33_1 h_a_33_2 h_a_35_1 h_a_35_2 h_a_36_1 h_a_36_2 h_a_3_1 h_a_3_2 h_a_4_1 h_a_4_2  b ?_
  refine ch_X12_plainest_184 S  h_a_1_3 h_a_1_4 h_a_2_2 h_a_31_0 h_a_31_1 h_a_31_2 h_a_33_3 h_a_33_4 h_a_35_3 h_a_35_4 h_a_36_3 h_a_36_4 h_a_3_3 h_a_3_4 h_a_4_3 h_a_4_4  b ?_
  refine ch_X12_plainest_185 S  h_a_0_2 h_a_1_5 h_a_1_6 h_a_2_1 h_a_31_0 h_a_31_2 h_a_31_5 h_a_32_2 h_a_33_5 h_a_33_6 h_a_35_5 h_a_35_6 h_a_36_5 h_a_36_6 h_a_3_5 h_a_3_6 h_a_4_5 h_a_4_6  b ?_
  refine ch_X12_plainest_186 S  h_a_0_0 h_a_0_1 h_a_0_2 h_a_1_1 h_a_1_2 h_a_1_3 h_a_1_5 h_a_1_6 h_a_1_7 h_a_1_8 h_a_2_0 h_a_2_1 h_a_2_2 h_a_31_1 h_a_31_2 h_a_33_7 h_a_33_8 h_a_35_7 h_a_35_8 h_a_36_7 h_a_36_8 h_a_3_1 h_a_3_5 h_a_3_6 h_a_3_7 h_a_3_8 h_a_4_1 h_a_4_2 h_a_4_3 h_a_4_5 h_a_4_6 h_a_4_7 h_a_4_8 h_i_0  b ?_
  refine ch_X12_plainest_187 S  h_a_0_0 h_a_1_0 h_a_1_1 h_a_2_1 h_a_31_0 h_a_31_1 h_a_31_6 h_a_32_0 h_a_33_0 h_a_33_1 h_a_35_0 h_a_35_1 h_a_36_0 h_a_3_0 h_a_3_1 h_a_4_0  b ?_
  refine ch_X12_plainest_188 S  h_a_0_1 h_a_1_2 h_a_1_3 h_a_2_0 h_a_31_0 h_a_31_1 h_a_31_2 h_a_31_7 h_a_32_1 h_a_33_2 h_a_33_3 h_a_35_2 h_a_36_1 h_a_36_2 h_a_3_2 h_a_4_1 h_a_4_2  b ?_
  refine ch_X12_plainest_189 S  h_a_1_4 h_a_1_5 h_a_31_1 h_a_31_2 h_a_33_4 h_a_33_5 h_a_35_3 h_a_35_4 h_a_35_5 h_a_36_3 h_a_36_4 h_a_36_5 h_a_3_3 h_a_3_4 h_a_3_5 h_a_4_3 h_a_4_4 h_a_4_5  b ?_
  refine ch_X12_plainest_190 S  h_a_0_2 h_a_1_6 h_a_1_7 h_a_2_2 h_a_31_0 h_a_31_1 h_a_31_2 h_a_31_8 h_a_32_2 h_a_33_6 h_a_33_7 h_a_35_6 h_a_35_7 h_a_36_6 h_a_3_6 h_a_3_7 h_a_4_6  b ?_
  refine ch_X12_plainest_191 S  h_a_0_0 h_a_0_1 h_a_0_2 h_a_1_1 h_a_1_2 h_a_1_3 h_a_1_5 h_a_1_6 h_a_1_7 h_a_1_8 h_a_2_0 h_a_2_1 h_a_2_2 h_a_31_0 h_a_31_2 h_a_31_9 h_a_32_0 h_a_33_8 h_a_35_8 h_a_36_7 h_a_36_8 h_a_3_1 h_a_3_5 h_a_3_6 h_a_3_8 h_a_4_1 h_a_4_2 h_a_4_3 h_a_4_5 h_a_4_6 h_a_4_7 h_a_4_8 h_i_0  b ?_
  refine ch_X12_plainest_192 S  h_a_1_0 h_a_1_1 h_a_1_2 h_a_31_0 h_a_31_1 h_a_31_2 h_a_33_0 h_a_33_1 h_a_33_2 h_a_35_0 h_a_35_1 h_a_36_0 h_a_36_1 h_a_3_0 h_a_3_1 h_a_4_0 h_a_4_1  b ?_
  refine ch_X12_plainest_193 S  h_a_0_1 h_a_1_3 h_a_2_2 h_a_31_0 h_a_31_1 h_a_31_10 h_a_32_1 h_a_33_3 h_a_35_2 h_a_35_3 h_a_36_2 h_a_36_3 h_a_3_2 h_a_3_3 h_a_4_2 h_a_4_3  b ?_
  refine ch_X12_plainest_194 S  h_a_0_2 h_a_1_4 h_a_1_5 h_a_2_0 h_a_31_1 h_a_31_11 h_a_31_2 h_a_32_2 h_a_33_4 h_a_33_5 h_a_35_4 h_a_35_5 h_a_36_4 h_a_36_5 h_a_3_4 h_a_3_5 h_a_4_4 h_a_4_5  b ?_
  refine ch_X12_plainest_195 S  h_a_1_6 h_a_1_7 h_a_31_0 h_a_31_1 h_a_31_2 h_a_33_6 h_a_33_7 h_a_35_6 h_a_35_7 h_a_36_6 h_a_36_7 h_a_3_6 h_a_3_7 h_a_4_6 h_a_4_7  b ?_
  refine ch_X12_plainest_196 S  h_a_0_0 h_a_0_1 h_a_0_2 h_a_1_0 h_a_1_1 h_a_1_2 h_a_1_3 h_a_1_5 h_a_1_6 h_a_1_7 h_a_1_8 h_a_2_0 h_a_2_1 h_a_2_2 h_a_31_0 h_a_31_12 h_a_32_0 h_a_33_0 h_a_33_8 h_a_35_0 h_a_35_8 h_a_36_8 h_a_3_0 h_a_3_1 h_a_3_5 h_a_3_6 h_a_3_8 h_a_4_1 h_a_4_2 h_a_4_3 h_a_4_5 h_a_4_6 h_a_4_7 h_a_4_8 h_i_0  b ?_
  refine ch_X12_plainest_197 S  h_a_1_1 h_a_1_2 h_a_31_0 h_a_31_1 h_a_31_2 h_a_33_1 h_a_33_2 h_a_35_1 h_a_35_2 h_a_36_0 h_a_36_1 h_a_36_2 h_a_3_1 h_a_3_2 h_a_4_0 h_a_4_1 h_a_4_2  b ?_
  refine ch_X12_plainest_198 S  h_a_0_1 h_a_1_3 h_a_1_4 h_a_2_0 h_a_31_0 h_a_31_1 h_a_31_13 h_a_32_1 h_a_33_3 h_a_33_4 h_a_35_3 h_a_35_4 h_a_36_3 h_a_36_4 h_a_3_3 h_a_3_4 h_a_4_3 h_a_4_4  b ?_
  refine ch_X12_plainest_199 S  h_a_0_2 h_a_1_5 h_a_1_6 h_a_2_1 h_a_31_0 h_a_31_1 h_a_31_14 h_a_31_2 h_a_32_2 h_a_33_5 h_a_33_6 h_a_35_5 h_a_36_5 h_a_3_5 h_a_4_5  b ?_
  refine ch_X12_plainest_200 S  h_a_1_7 h_a_1_8 h_a_31_1 h_a_31_2 h_a_33_7 h_a_33_8 h_a_35_6 h_a_35_7 h_a_35_8 h_a_36_6 h_a_36_7 h_a_36_8 h_a_3_6 h_a_3_7 h_a_3_8 h_a_4_6 h_a_4_7 h_a_4_8  b ?_
  refine ch_X12_plainest_201 S  h_a_0_0 h_a_0_1 h_a_0_2 h_a_1_0 h_a_1_1 h_a_1_2 h_a_1_3 h_a_1_5 h_a_1_6 h_a_1_7 h_a_2_0 h_a_2_1 h_a_2_2 h_a_31_0 h_a_31_1 h_a_31_15 h_a_32_0 h_a_33_0 h_a_33_1 h_a_35_0 h_a_36_0 h_a_3_0 h_a_3_1 h_a_3_5 h_a_3_6 h_a_4_0 h_a_4_1 h_a_4_2 h_a_4_3 h_a_4_5 h_a_4_6 h_a_4_7 h_i_0  b ?_
  refine ch_X12_plainest_202 S  h_a_0_1 h_a_1_1 h_a_1_2 h_a_2_1 h_a_31_0 h_a_31_1 h_a_31_16 h_a_31_2 h_a_32_1 h_a_33_2 h_a_35_1 h_a_35_2 h_a_36_1 h_a_36_2 h_a_3_1 h_a_3_2 h_a_4_1 h_a_4_2  b ?_
  refine ch_X12_plainest_203 S  h_a_1_3 h_a_1_4 h_a_1_5 h_a_31_0 h_a_31_1 h_a_31_2 h_a_33_3 h_a_33_4 h_a_33_5 h_a_35_3 h_a_35_4 h_a_36_3 h_a_36_4 h_a_3_3 h_a_3_4 h_a_4_3 h_a_4_4  b ?_
  refine ch_X12_plainest_204 S  h_a_0_2 h_a_1_6 h_a_2_0 h_a_31_0 h_a_31_1 h_a_31_17 h_a_31_2 h_a_32_2 h_a_33_6 h_a_35_5 h_a_35_6 h_a_36_5 h_a_36_6 h_a_3_5 h_a_3_6 h_a_4_5 h_a_4_6  b ?_
  refine ch_X12_plainest_205 S  h_a_0_0 h_a_0_1 h_a_0_2 h_a_1_1 h_a_1_2 h_a_1_3 h_a_1_5 h_a_1_6 h_a_1_7 h_a_1_8 h_a_2_0 h_a_2_1 h_a_2_2 h_a_31_0 h_a_31_2 h_a_31_3 h_a_32_0 h_a_33_7 h_a_33_8 h_a_35_7 h_a_35_8 h_a_36_7 h_a_36_8 h_a_3_1 h_a_3_5 h_a_3_6 h_a_3_7 h_a_3_8 h_a_4_1 h_a_4_2 h_a_4_3 h_a_4_5 h_a_4_6 h_a_4_7 h_a_4_8 h_i_0  b ?_
  refine ch_X12_plainest_206 S  h_a_1_0 h_a_1_2 h_a_2_0 h_a_31_3 h_a_31_4 h_a_33_0 h_a_33_1 h_a_35_0 h_a_35_1 h_a_36_0 h_a_36_1 h_a_3_0 h_a_3_2 h_a_4_0 h_a_4_2  b ?_
  refine ch_X12_plainest_207 S  h_a_0_2 h_a_1_1 h_a_1_6 h_a_2_1 h_a_31_1 h_a_31_3 h_a_31_4 h_a_31_5 h_a_32_1 h_a_33_2 h_a_33_3 h_a_35_2 h_a_35_3 h_a_36_2 h_a_36_3 h_a_3_1 h_a_3_6 h_a_4_1  b ?_
  refine ch_X12_plainest_208 S  h_a_0_1 h_a_1_7 h_a_1_8 h_a_31_4 h_a_31_5 h_a_32_2 h_a_33_4 h_a_33_5 h_a_35_4 h_a_35_5 h_a_36_4 h_a_36_5 h_a_3_7 h_a_3_8 h_a_4_6 h_a_4_7 h_a_4_8  b ?_
  refine ch_X12_plainest_209 S  h_a_1_3 h_a_1_5 h_a_2_2 h_a_31_2 h_a_31_3 h_a_31_4 h_a_31_5 h_a_33_6 h_a_33_7 h_a_35_6 h_a_35_7 h_a_36_6 h_a_36_7 h_a_3_3 h_a_3_5 h_a_4_3 h_a_4_5  b ?_
  refine ch_X12_plainest_210 S  h_a_0_0 h_a_0_1 h_a_0_2 h_a_1_1 h_a_1_2 h_a_1_3 h_a_1_4 h_a_1_5 h_a_1_6 h_a_1_7 h_a_2_0 h_a_2_1 h_a_2_2 h_a_31_3 h_a_31_5 h_a_32_0 h_a_33_8 h_a_35_8 h_a_36_8 h_a_3_1 h_a_3_4 h_a_3_5 h_a_3_6 h_a_4_1 h_a_4_2 h_a_4_3 h_a_4_4 h_a_4_5 h_a_4_6 h_a_4_7 h_i_0  b ?_
  refine ch_X12_plainest_211 S  h_a_1_0 h_a_1_1 h_a_1_2 h_a_31_3 h_a_31_4 h_a_31_5 h_a_33_0 h_a_33_1 h_a_33_2 h_a_35_0 h_a_35_1 h_a_35_2 h_a_36_0 h_a_36_1 h_a_3_0 h_a_3_1 h_a_3_2 h_a_4_0 h_a_4_2  b ?_
  refine ch_X12_plainest_212 S  h_a_0_2 h_a_1_6 h_a_1_8 h_a_2_2 h_a_31_3 h_a_31_4 h_a_32_1 h_a_33_3 h_a_33_4 h_a_35_3 h_a_36_2 h_a_36_3 h_a_3_6 h_a_4_1 h_a_4_6  b ?_
  refine ch_X12_plainest_213 S  h_a_0_1 h_a_1_7 h_a_2_1 h_a_31_3 h_a_31_4 h_a_31_5 h_a_32_2 h_a_33_5 h_a_35_4 h_a_35_5 h_a_36_4 h_a_36_5 h_a_3_7 h_a_3_8 h_a_4_7 h_a_4_8  b ?_
  refine ch_X12_plainest_214 S  h_a_1_3 h_a_1_4 h_a_1_5 h_a_31_4 h_a_31_5 h_a_33_6 h_a_33_7 h_a_33_8 h_a_35_6 h_a_35_7 h_a_35_8 h_a_36_6 h_a_36_7 h_a_3_3 h_a_3_4 h_a_3_5 h_a_4_3 h_a_4_5  b ?_
  refine ch_X12_plainest_215 S  h_a_0_0 h_a_0_1 h_a_0_2 h_a_1_0 h_a_1_1 h_a_1_2 h_a_1_3 h_a_1_5 h_a_1_6 h_a_1_7 h_a_2_0 h_a_2_1 h_a_2_2 h_a_31_3 h_a_31_6 h_a_32_0 h_a_33_0 h_a_35_0 h_a_36_0 h_a_36_8 h_a_3_0 h_a_3_1 h_a_3_5 h_a_3_6 h_a_4_0 h_a_4_1 h_a_4_2 h_a_4_3 h_a_4_4 h_a_4_5 h_a_4_6 h_a_4_7 h_i_0  b ?_
  refine ch_X12_plainest_216 S  h_a_0_2 h_a_1_1 h_a_1_2 h_a_31_3 h_a_31_4 h_a_31_5 h_a_31_7 h_a_32_1 h_a_33_1 h_a_33_2 h_a_35_1 h_a_35_2 h_a_36_1 h_a_36_2 h_a_3_1 h_a_3_2 h_a_4_1 h_a_4_2  b ?_
  refine ch_X12_plainest_217 S  h_a_1_6 h_a_1_8 h_a_2_0 h_a_31_3 h_a_31_4 h_a_31_5 h_a_33_3 h_a_33_4 h_a_35_3 h_a_35_4 h_a_36_3 h_a_36_4 h_a_3_6 h_a_3_8 h_a_4_6 h_a_4_8  b ?_
  refine ch_X12_plainest_218 S  h_a_0_1 h_a_1_3 h_a_1_7 h_a_2_2 h_a_31_3 h_a_31_5 h_a_31_8 h_a_32_2 h_a_33_5 h_a_33_6 h_a_35_5 h_a_35_6 h_a_36_5 h_a_36_6 h_a_3_3 h_a_3_7 h_a_4_3 h_a_4_7  b ?_
  refine ch_X12_plainest_219 S  h_a_0_0 h_a_0_1 h_a_0_2 h_a_1_1 h_a_1_2 h_a_1_3 h_a_1_4 h_a_1_5 h_a_1_6 h_a_1_7 h_a_2_0 h_a_2_1 h_a_2_2 h_a_31_4 h_a_31_5 h_a_33_7 h_a_33_8 h_a_35_7 h_a_35_8 h_a_36_7 h_a_36_8 h_a_3_1 h_a_3_4 h_a_3_5 h_a_3_6 h_a_4_1 h_a_4_2 h_a_4_3 h_a_4_4 h_a_4_5 h_a_4_6 h_a_4_7 h_i_0  b ?_
  refine ch_X12_plainest_220 S  h_a_0_0 h_a_1_0 h_a_1_2 h_a_2_1 h_a_31_3 h_a_31_4 h_a_31_9 h_a_32_0 h_a_33_0 h_a_33_1 h_a_35_0 h_a_35_1 h_a_36_0 h_a_3_0 h_a_3_2 h_a_4_0  b ?_
  refine ch_X12_plainest_221 S  h_a_0_2 h_a_1_1 h_a_1_6 h_a_2_2 h_a_31_10 h_a_31_3 h_a_31_4 h_a_31_5 h_a_32_1 h_a_33_2 h_a_33_3 h_a_35_2 h_a_36_1 h_a_36_2 h_a_3_1 h_a_4_1 h_a_4_2  b ?_
  refine ch_X12_plainest_222 S  h_a_1_7 h_a_1_8 h_a_31_4 h_a_31_5 h_a_33_4 h_a_33_5 h_a_35_3 h_a_35_4 h_a_35_5 h_a_36_3 h_a_36_4 h_a_36_5 h_a_3_6 h_a_3_7 h_a_3_8 h_a_4_6 h_a_4_7 h_a_4_8  b ?_
  refine ch_X12_plainest_223 S  h_a_0_1 h_a_1_3 h_a_1_5 h_a_2_0 h_a_31_11 h_a_31_3 h_a_31_4 h_a_31_5 h_a_32_2 h_a_33_6 h_a_33_7 h_a_35_6 h_a_36_6 h_a_3_3 h_a_4_3  b ?_
  refine ch_X12_plainest_224 S  h_a_0_0 h_a_0_1 h_a_0_2 h_a_1_1 h_a_1_2 h_a_1_3 h_a_1_4 h_a_1_5 h_a_1_6 h_a_1_7 h_a_2_0 h_a_2_1 h_a_2_2 h_a_31_12 h_a_31_3 h_a_31_5 h_a_32_0 h_a_33_8 h_a_35_7 h_a_35_8 h_a_36_7 h_a_36_8 h_a_3_1 h_a_3_4 h_a_3_5 h_a_3_6 h_a_4_1 h_a_4_2 h_a_4_3 h_a_4_4 h_a_4_5 h_a_4_6 h_a_4_7 h_i_0  b ?_
  refine ch_X12_plainest_225 S  h_a_1_0 h_a_1_2 h_a_31_3 h_a_31_4 h_a_31_5 h_a_33_0 h_a_33_1 h_a_33_2 h_a_35_0 h_a_35_1 h_a_36_0 h_a_36_1 h_a_3_0 h_a_3_2 h_a_4_0 h_a_4_2  b ?_
  refine ch_X12_plainest_226 S  h_a_0_2 h_a_1_1 h_a_1_6 h_a_2_0 h_a_31_13 h_a_31_3 h_a_31_4 h_a_32_1 h_a_33_3 h_a_35_2 h_a_35_3 h_a_36_2 h_a_36_3 h_a_3_1 h_a_3_6 h_a_4_1 h_a_4_6  b ?_
  refine ch_X12_plainest_227 S  h_a_0_1 h_a_1_7 h_a_1_8 h_a_31_14 h_a_31_4 h_a_31_5 h_a_32_2 h_a_33_4 h_a_33_5 h_a_35_4 h_a_35_5 h_a_36_4 h_a_36_5 h_a_3_7 h_a_3_8 h_a_4_7 h_a_4_8  b ?_
  refine ch_X12_plainest_228 S  h_a_1_3 h_a_1_5 h_a_2_1 h_a_31_3 h_a_31_4 h_a_31_5 h_a_33_6 h_a_33_7 h_a_35_6 h_a_35_7 h_a_36_6 h_a_36_7 h_a_3_3 h_a_3_5 h_a_4_3 h_a_4_5  b ?_
  refine ch_X12_plainest_229 S  h_a_0_0 h_a_0_1 h_a_0_2 h_a_1_0 h_a_1_1 h_a_1_2 h_a_1_3 h_a_1_4 h_a_1_5 h_a_1_6 h_a_1_7 h_a_2_0 h_a_2_1 h_a_2_2 h_a_31_15 h_a_31_3 h_a_32_0 h_a_33_0 h_a_33_8 h_a_35_0 h_a_35_8 h_a_36_8 h_a_3_0 h_a_3_1 h_a_3_4 h_a_3_5 h_a_3_6 h_a_4_1 h_a_4_2 h_a_4_3 h_a_4_4 h_a_4_5 h_a_4_6 h_a_4_7 h_i_0  b ?_
  refine ch_X12_plainest_230 S  h_a_1_1 h_a_1_2 h_a_31_3 h_a_31_4 h_a_31_5 h_a_33_1 h_a_33_2 h_a_35_1 h_a_35_2 h_a_36_0 h_a_36_1 h_a_36_2 h_a_3_1 h_a_3_2 h_a_4_0 h_a_4_1 h_a_4_2  b ?_
  refine ch_X12_plainest_231 S  h_a_0_2 h_a_1_6 h_a_1_8 h_a_2_1 h_a_31_16 h_a_31_3 h_a_31_4 h_a_32_1 h_a_33_3 h_a_33_4 h_a_35_3 h_a_35_4 h_a_36_3 h_a_3_6 h_a_3_8 h_a_4_6  b ?_
  refine ch_X12_plainest_232 S  h_a_0_1 h_a_1_3 h_a_1_7 h_a_2_0 h_a_31_17 h_a_31_3 h_a_31_4 h_a_31_5 h_a_32_2 h_a_33_5 h_a_33_6 h_a_35_5 h_a_36_4 h_a_36_5 h_a_3_7 h_a_4_7 h_a_4_8  b ?_
  refine ch_X12_plainest_233 S  h_a_1_4 h_a_1_5 h_a_31_4 h_a_31_5 h_a_33_7 h_a_33_8 h_a_35_6 h_a_35_7 h_a_35_8 h_a_36_6 h_a_36_7 h_a_36_8 h_a_3_3 h_a_3_4 h_a_3_5 h_a_4_3 h_a_4_4 h_a_4_5  b ?_
  refine ch_X12_plainest_234 S  h_a_0_0 h_a_0_1 h_a_0_2 h_a_1_1 h_a_1_2 h_a_1_3 h_a_1_4 h_a_1_5 h_a_1_6 h_a_1_7 h_a_2_0 h_a_2_1 h_a_2_2 h_a_31_0 h_a_31_6 h_a_31_7 h_a_32_0 h_a_33_0 h_a_35_0 h_a_36_0 h_a_3_1 h_a_3_4 h_a_3_5 h_a_3_6 h_a_4_1 h_a_4_2 h_a_4_3 h_a_4_4 h_a_4_5 h_a_4_6 h_a_4_7 h_i_0  b ?_
  refine ch_X12_plainest_235 S  h_a_0_0 h_a_1_3 h_a_1_5 h_a_2_1 h_a_31_1 h_a_31_6 h_a_31_7 h_a_31_8 h_a_32_1 h_a_33_1 h_a_33_2 h_a_35_1 h_a_35_2 h_a_36_1 h_a_36_2 h_a_3_3 h_a_3_5 h_a_4_3 h_a_4_5  b ?_
  refine ch_X12_plainest_236 S  h_a_1_0 h_a_1_1 h_a_1_2 h_a_31_6 h_a_31_7 h_a_31_8 h_a_33_3 h_a_33_4 h_a_33_5 h_a_35_3 h_a_35_4 h_a_36_3 h_a_36_4 h_a_3_0 h_a_3_1 h_a_4_0 h_a_4_1  b ?_
  refine ch_X12_plainest_237 S  h_a_0_2 h_a_1_7 h_a_2_2 h_a_31_2 h_a_31_6 h_a_31_7 h_a_31_8 h_a_32_2 h_a_33_6 h_a_35_5 h_a_35_6 h_a_36_5 h_a_36_6 h_a_3_2 h_a_3_7 h_a_4_2 h_a_4_7  b ?_
  refine ch_X12_plainest_238 S  h_a_0_0 h_a_0_1 h_a_0_2 h_a_1_1 h_a_1_2 h_a_1_3 h_a_1_5 h_a_1_6 h_a_1_7 h_a_1_8 h_a_2_0 h_a_2_1 h_a_2_2 h_a_31_6 h_a_31_8 h_a_32_0 h_a_33_7 h_a_33_8 h_a_35_7 h_a_35_8 h_a_36_7 h_a_36_8 h_a_3_1 h_a_3_5 h_a_3_6 h_a_3_8 h_a_4_1 h_a_4_2 h_a_4_3 h_a_4_5 h_a_4_6 h_a_4_7 h_a_4_8 h_i_0  b ?_
  refine ch_X12_plainest_239 S  h_a_1_3 h_a_1_4 h_a_2_0 h_a_31_3 h_a_31_6 h_a_31_7 h_a_33_0 h_a_33_1 h_a_35_0 h_a_35_1 h_a_36_0 h_a_36_1 h_a_3_3 h_a_3_4 h_a_4_3 h_a_4_4  b ?_
  refine ch_X12_plainest_240 S  h_a_0_0 h_a_1_1 h_a_1_5 h_a_2_2 h_a_31_4 h_a_31_6 h_a_31_7 h_a_31_8 h_a_32_1 h_a_33_2 h_a_33_3 h_a_35_2 h_a_35_3 h_a_36_2 h_a_3_1 h_a_3_5 h_a_4_5  b ?_
  refine ch_X12_plainest_241 S  h_a_1_0 h_a_1_2 h_a_31_7 h_a_31_8 h_a_33_4 h_a_33_5 h_a_35_4 h_a_35_5 h_a_36_3 h_a_36_4 h_a_36_5 h_a_3_0 h_a_3_2 h_a_4_0 h_a_4_1 h_a_4_2  b ?_
  refine ch_X12_plainest_242 S  h_a_0_2 h_a_1_6 h_a_1_7 h_a_2_1 h_a_31_5 h_a_31_6 h_a_31_7 h_a_31_8 h_a_32_2 h_a_33_6 h_a_33_7 h_a_35_6 h_a_35_7 h_a_36_6 h_a_36_7 h_a_3_6 h_a_3_7 h_a_4_6 h_a_4_7  b ?_
  refine ch_X12_plainest_243 S  h_a_0_0 h_a_0_1 h_a_0_2 h_a_1_1 h_a_1_2 h_a_1_3 h_a_1_5 h_a_1_6 h_a_1_7 h_a_1_8 h_a_2_0 h_a_2_1 h_a_2_2 h_a_31_6 h_a_31_8 h_a_32_0 h_a_33_8 h_a_35_8 h_a_36_8 h_a_3_1 h_a_3_5 h_a_3_6 h_a_3_8 h_a_4_1 h_a_4_2 h_a_4_3 h_a_4_5 h_a_4_6 h_a_4_7 h_a_4_8 h_i_0  b ?_
  refine ch_X12_plainest_244 S  h_a_1_3 h_a_1_4 h_a_1_5 h_a_31_6 h_a_31_7 h_a_31_8 h_a_33_0 h_a_33_1 h_a_33_2 h_a_35_0 h_a_35_1 h_a_35_2 h_a_36_0 h_a_36_1 h_a_3_3 h_a_3_4 h_a_3_5 h_a_4_3 h_a_4_4  b ?_
  refine ch_X12_plainest_245 S  h_a_0_0 h_a_1_1 h_a_2_0 h_a_31_6 h_a_31_7 h_a_32_1 h_a_33_3 h_a_33_4 h_a_35_3 h_a_36_2 h_a_36_3 h_a_3_1 h_a_4_1 h_a_4_5  b ?_
  refine ch_X12_plainest_246 S  h_a_0_2 h_a_1_0 h_a_1_2 h_a_2_2 h_a_31_7 h_a_31_8 h_a_32_2 h_a_33_5 h_a_35_4 h_a_35_5 h_a_36_4 h_a_36_5 h_a_3_0 h_a_3_2 h_a_4_0 h_a_4_2  b ?_
  refine ch_X12_plainest_247 S  h_a_1_6 h_a_1_7 h_a_1_8 h_a_31_6 h_a_31_7 h_a_31_8 h_a_33_6 h_a_33_7 h_a_33_8 h_a_35_6 h_a_35_7 h_a_36_6 h_a_36_7 h_a_3_6 h_a_3_7 h_a_4_6 h_a_4_7  b ?_
  refine ch_X12_plainest_248 S  h_a_0_0 h_a_0_1 h_a_0_2 h_a_1_1 h_a_1_2 h_a_1_3 h_a_1_4 h_a_1_5 h_a_1_6 h_a_1_7 h_a_2_0 h_a_2_1 h_a_2_2 h_a_31_6 h_a_31_9 h_a_32_0 h_a_33_0 h_a_35_0 h_a_35_8 h_a_36_0 h_a_36_8 h_a_3_1 h_a_3_4 h_a_3_5 h_a_3_6 h_a_3_8 h_a_4_1 h_a_4_2 h_a_4_3 h_a_4_4 h_a_4_5 h_a_4_6 h_a_4_7 h_a_4_8 h_i_0  b ?_
  refine ch_X12_plainest_249 S  h_a_0_0 h_a_1_3 h_a_1_5 h_a_31_10 h_a_31_6 h_a_31_7 h_a_31_8 h_a_32_1 h_a_33_1 h_a_33_2 h_a_35_1 h_a_35_2 h_a_36_1 h_a_36_2 h_a_3_3 h_a_3_5 h_a_4_3 h_a_4_5  b ?_
  refine ch_X12_plainest_250 S  h_a_1_0 h_a_1_1 h_a_2_2 h_a_31_6 h_a_31_7 h_a_33_3 h_a_33_4 h_a_35_3 h_a_35_4 h_a_36_3 h_a_36_4 h_a_3_0 h_a_3_1 h_a_4_0 h_a_4_1  b ?_
  refine ch_X12_plainest_251 S  h_a_0_2 h_a_1_2 h_a_1_7 h_a_2_0 h_a_31_11 h_a_31_6 h_a_31_8 h_a_32_2 h_a_33_5 h_a_33_6 h_a_35_5 h_a_35_6 h_a_36_5 h_a_36_6 h_a_3_2 h_a_3_7 h_a_4_2  b ?_
  refine ch_X12_plainest_252 S  h_a_0_0 h_a_0_1 h_a_0_2 h_a_1_1 h_a_1_2 h_a_1_3 h_a_1_5 h_a_1_6 h_a_1_7 h_a_1_8 h_a_2_0 h_a_2_1 h_a_2_2 h_a_31_7 h_a_31_8 h_a_33_7 h_a_33_8 h_a_35_7 h_a_35_8 h_a_36_7 h_a_36_8 h_a_3_1 h_a_3_5 h_a_3_6 h_a_3_8 h_a_4_1 h_a_4_2 h_a_4_3 h_a_4_5 h_a_4_6 h_a_4_7 h_a_4_8 h_i_0  b ?_
  refine ch_X12_plainest_253 S  h_a_0_1 h_a_1_3 h_a_1_4 h_a_2_2 h_a_31_12 h_a_31_6 h_a_31_7 h_a_32_0 h_a_33_0 h_a_33_1 h_a_35_0 h_a_35_1 h_a_36_0 h_a_3_3 h_a_3_4 h_a_4_4  b ?_
  refine ch_X12_plainest_254 S  h_a_0_0 h_a_1_5 h_a_2_0 h_a_31_13 h_a_31_6 h_a_31_7 h_a_31_8 h_a_32_1 h_a_33_2 h_a_35_2 h_a_36_1 h_a_36_2 h_a_3_5 h_a_4_3 h_a_4_5  b ?_
  refine ch_X12_plainest_255 S  h_a_1_0 h_a_1_1 h_a_1_2 h_a_31_7 h_a_31_8 h_a_33_3 h_a_33_4 h_a_33_5 h_a_35_3 h_a_35_4 h_a_35_5 h_a_36_3 h_a_36_4 h_a_3_0 h_a_3_1 h_a_3_2 h_a_4_0 h_a_4_1  b ?_
  refine ch_X12_plainest_256 S  h_a_0_2 h_a_1_6 h_a_1_7 h_a_2_1 h_a_31_14 h_a_31_6 h_a_31_7 h_a_31_8 h_a_32_2 h_a_33_6 h_a_33_7 h_a_35_6 h_a_36_5 h_a_36_6 h_a_3_7 h_a_4_2 h_a_4_7  b ?_
  refine ch_X12_plainest_257 S  h_a_0_0 h_a_0_1 h_a_0_2 h_a_1_1 h_a_1_2 h_a_1_3 h_a_1_5 h_a_1_6 h_a_1_7 h_a_1_8 h_a_2_0 h_a_2_1 h_a_2_2 h_a_31_15 h_a_31_6 h_a_31_8 h_a_32_0 h_a_33_8 h_a_35_7 h_a_35_8 h_a_36_7 h_a_36_8 h_a_3_1 h_a_3_5 h_a_3_6 h_a_3_8 h_a_4_1 h_a_4_2 h_a_4_3 h_a_4_5 h_a_4_6 h_a_4_7 h_a_4_8 h_i_0  b ?_
  refine ch_X12_plainest_258 S  h_a_1_3 h_a_1_4 h_a_31_6 h_a_31_7 h_a_31_8 h_a_33_0 h_a_33_1 h_a_35_0 h_a_35_1 h_a_36_0 h_a_36_1 h_a_3_3 h_a_3_4 h_a_4_3 h_a_4_4  b ?_
  refine ch_X12_plainest_259 S  h_a_0_0 h_a_1_1 h_a_1_5 h_a_2_1 h_a_31_16 h_a_31_6 h_a_31_7 h_a_32_1 h_a_33_2 h_a_33_3 h_a_35_2 h_a_35_3 h_a_36_2 h_a_36_3 h_a_3_1 h_a_3_5 h_a_4_1 h_a_4_5  b ?_
  refine ch_X12_plainest_260 S  h_a_0_2 h_a_1_0 h_a_1_2 h_a_31_17 h_a_31_7 h_a_31_8 h_a_32_2 h_a_33_4 h_a_33_5 h_a_35_4 h_a_35_5 h_a_36_4 h_a_36_5 h_a_3_0 h_a_3_2 h_a_4_0 h_a_4_2  b ?_
  refine ch_X12_plainest_261 S  h_a_1_6 h_a_1_7 h_a_2_0 h_a_31_6 h_a_31_7 h_a_31_8 h_a_33_6 h_a_33_7 h_a_35_6 h_a_35_7 h_a_36_6 h_a_36_7 h_a_3_6 h_a_3_7 h_a_4_6 h_a_4_7  b ?_
  refine ch_X12_plainest_262 S  h_a_0_0 h_a_0_1 h_a_0_2 h_a_1_1 h_a_1_2 h_a_1_3 h_a_1_4 h_a_1_5 h_a_1_6 h_a_1_7 h_a_1_8 h_a_2_0 h_a_2_1 h_a_2_2 h_a_31_0 h_a_31_9 h_a_32_0 h_a_33_0 h_a_33_8 h_a_35_8 h_a_36_8 h_a_3_1 h_a_3_5 h_a_3_6 h_a_3_8 h_a_4_1 h_a_4_2 h_a_4_3 h_a_4_5 h_a_4_6 h_a_4_7 h_a_4_8 h_i_0  b ?_
  refine ch_X12_plainest_263 S  h_a_1_3 h_a_1_5 h_a_31_10 h_a_31_11 h_a_31_9 h_a_33_1 h_a_33_2 h_a_35_0 h_a_35_1 h_a_35_2 h_a_36_0 h_a_36_1 h_a_36_2 h_a_3_3 h_a_3_4 h_a_3_5 h_a_4_3 h_a_4_4 h_a_4_5  b ?_
  refine ch_X12_plainest_264 S  h_a_0_2 h_a_1_7 h_a_1_8 h_a_2_1 h_a_31_1 h_a_31_10 h_a_31_9 h_a_32_1 h_a_33_3 h_a_33_4 h_a_35_3 h_a_35_4 h_a_36_3 h_a_3_7 h_a_3_8 h_a_4_7  b ?_
  refine ch_X12_plainest_265 S  h_a_0_0 h_a_1_1 h_a_1_6 h_a_2_2 h_a_31_10 h_a_31_11 h_a_31_2 h_a_31_9 h_a_32_2 h_a_33_5 h_a_33_6 h_a_35_5 h_a_36_4 h_a_36_5 h_a_3_6 h_a_4_6 h_a_4_8  b ?_
  refine ch_X12_plainest_266 S  h_a_1_0 h_a_1_2 h_a_31_10 h_a_31_11 h_a_33_7 h_a_33_8 h_a_35_6 h_a_35_7 h_a_35_8 h_a_36_6 h_a_36_7 h_a_36_8 h_a_3_0 h_a_3_1 h_a_3_2 h_a_4_0 h_a_4_1 h_a_4_2  b ?_
  refine ch_X12_plainest_267 S  h_a_0_0 h_a_0_1 h_a_0_2 h_a_1_1 h_a_1_2 h_a_1_3 h_a_1_4 h_a_1_5 h_a_1_6 h_a_1_7 h_a_2_0 h_a_2_1 h_a_2_2 h_a_31_10 h_a_31_3 h_a_31_9 h_a_32_0 h_a_33_0 h_a_35_0 h_a_36_0 h_a_3_1 h_a_3_4 h_a_3_5 h_a_3_6 h_a_4_1 h_a_4_2 h_a_4_3 h_a_4_4 h_a_4_5 h_a_4_6 h_a_4_7 h_i_0  b ?_
  refine ch_X12_plainest_268 S  h_a_0_2 h_a_1_3 h_a_1_5 h_a_2_2 h_a_31_10 h_a_31_11 h_a_31_4 h_a_31_9 h_a_32_1 h_a_33_1 h_a_33_2 h_a_35_1 h_a_35_2 h_a_36_1 h_a_36_2 h_a_3_3 h_a_3_5 h_a_4_3 h_a_4_5  b ?_
  refine ch_X12_plainest_269 S  h_a_1_7 h_a_1_8 h_a_31_10 h_a_31_11 h_a_31_9 h_a_33_3 h_a_33_4 h_a_33_5 h_a_35_3 h_a_35_4 h_a_36_3 h_a_36_4 h_a_3_7 h_a_3_8 h_a_4_7 h_a_4_8  b ?_
  refine ch_X12_plainest_270 S  h_a_0_0 h_a_1_1 h_a_1_6 h_a_2_1 h_a_31_11 h_a_31_5 h_a_31_9 h_a_32_2 h_a_33_6 h_a_35_5 h_a_35_6 h_a_36_5 h_a_36_6 h_a_3_1 h_a_3_6 h_a_4_1 h_a_4_6  b ?_
  refine ch_X12_plainest_271 S  h_a_0_0 h_a_0_1 h_a_0_2 h_a_1_0 h_a_1_1 h_a_1_2 h_a_1_3 h_a_1_5 h_a_1_6 h_a_1_7 h_a_2_0 h_a_2_1 h_a_2_2 h_a_31_10 h_a_31_11 h_a_31_9 h_a_32_0 h_a_33_7 h_a_33_8 h_a_35_7 h_a_35_8 h_a_36_7 h_a_36_8 h_a_3_0 h_a_3_1 h_a_3_2 h_a_3_5 h_a_3_6 h_a_4_0 h_a_4_1 h_a_4_2 h_a_4_3 h_a_4_5 h_a_4_6 h_a_4_7 h_i_0  b ?_
  refine ch_X12_plainest_272 S  h_a_0_1 h_a_1_4 h_a_1_5 h_a_2_1 h_a_31_10 h_a_31_6 h_a_31_9 h_a_33_0 h_a_33_1 h_a_35_0 h_a_35_1 h_a_36_0 h_a_36_1 h_a_3_4 h_a_3_5 h_a_4_4 h_a_4_5  b ?_
  refine ch_X12_plainest_273 S  h_a_0_2 h_a_1_3 h_a_1_7 h_a_2_0 h_a_31_10 h_a_31_11 h_a_31_7 h_a_31_9 h_a_32_1 h_a_33_2 h_a_33_3 h_a_35_2 h_a_35_3 h_a_36_2 h_a_3_3 h_a_3_7 h_a_4_3  b ?_
  refine ch_X12_plainest_274 S  h_a_1_6 h_a_1_8 h_a_31_10 h_a_31_11 h_a_33_4 h_a_33_5 h_a_35_4 h_a_35_5 h_a_36_3 h_a_36_4 h_a_36_5 h_a_3_6 h_a_3_8 h_a_4_6 h_a_4_7 h_a_4_8  b ?_
  refine ch_X12_plainest_275 S  h_a_0_0 h_a_1_1 h_a_1_2 h_a_2_2 h_a_31_10 h_a_31_11 h_a_31_8 h_a_31_9 h_a_32_2 h_a_33_6 h_a_33_7 h_a_35_6 h_a_35_7 h_a_36_6 h_a_3_1 h_a_3_2 h_a_4_1  b ?_
  refine ch_X12_plainest_276 S  h_a_0_0 h_a_0_1 h_a_0_2 h_a_1_0 h_a_1_1 h_a_1_2 h_a_1_3 h_a_1_5 h_a_1_6 h_a_1_7 h_a_2_0 h_a_2_1 h_a_2_2 h_a_31_11 h_a_31_9 h_a_32_0 h_a_33_8 h_a_35_8 h_a_36_7 h_a_36_8 h_a_3_0 h_a_3_1 h_a_3_5 h_a_3_6 h_a_4_0 h_a_4_1 h_a_4_2 h_a_4_3 h_a_4_5 h_a_4_6 h_a_4_7 h_i_0  b ?_
  refine ch_X12_plainest_277 S  h_a_1_3 h_a_1_4 h_a_1_5 h_a_31_10 h_a_31_11 h_a_31_9 h_a_33_0 h_a_33_1 h_a_33_2 h_a_35_0 h_a_35_1 h_a_35_2 h_a_36_0 h_a_36_1 h_a_3_4 h_a_3_5 h_a_4_4 h_a_4_5  b ?_
  refine ch_X12_plainest_278 S  h_a_0_2 h_a_1_7 h_a_2_2 h_a_31_10 h_a_31_9 h_a_32_1 h_a_33_3 h_a_35_3 h_a_36_2 h_a_36_3 h_a_3_3 h_a_3_7 h_a_4_3 h_a_4_7  b ?_
  refine ch_X12_plainest_279 S  h_a_0_0 h_a_1_6 h_a_1_8 h_a_2_0 h_a_31_10 h_a_31_11 h_a_32_2 h_a_33_4 h_a_33_5 h_a_35_4 h_a_35_5 h_a_36_4 h_a_36_5 h_a_3_6 h_a_3_8 h_a_4_6 h_a_4_8  b ?_
  refine ch_X12_plainest_280 S  h_a_1_0 h_a_1_1 h_a_1_2 h_a_31_10 h_a_31_11 h_a_31_9 h_a_33_6 h_a_33_7 h_a_33_8 h_a_35_6 h_a_35_7 h_a_36_6 h_a_36_7 h_a_3_1 h_a_3_2 h_a_4_1 h_a_4_2  b ?_
  refine ch_X12_plainest_281 S  h_a_0_0 h_a_0_1 h_a_0_2 h_a_1_1 h_a_1_2 h_a_1_3 h_a_1_4 h_a_1_5 h_a_1_6 h_a_1_7 h_a_2_0 h_a_2_1 h_a_2_2 h_a_31_12 h_a_31_9 h_a_32_0 h_a_33_0 h_a_35_0 h_a_35_8 h_a_36_0 h_a_36_8 h_a_3_0 h_a_3_1 h_a_3_4 h_a_3_5 h_a_3_6 h_a_4_0 h_a_4_1 h_a_4_2 h_a_4_3 h_a_4_4 h_a_4_5 h_a_4_6 h_a_4_7 h_i_0  b ?_
  refine ch_X12_plainest_282 S  h_a_0_2 h_a_1_3 h_a_1_5 h_a_31_10 h_a_31_11 h_a_31_9 h_a_32_1 h_a_33_1 h_a_33_2 h_a_35_1 h_a_35_2 h_a_36_1 h_a_36_2 h_a_3_3 h_a_3_5 h_a_4_3 h_a_4_5  b ?_
  refine ch_X12_plainest_283 S  h_a_1_7 h_a_1_8 h_a_2_0 h_a_31_10 h_a_31_13 h_a_31_9 h_a_33_3 h_a_33_4 h_a_35_3 h_a_35_4 h_a_36_3 h_a_36_4 h_a_3_7 h_a_3_8 h_a_4_7 h_a_4_8  b ?_
  refine ch_X12_plainest_284 S  h_a_0_0 h_a_1_1 h_a_1_6 h_a_2_1 h_a_31_10 h_a_31_11 h_a_31_14 h_a_31_9 h_a_32_2 h_a_33_5 h_a_33_6 h_a_35_5 h_a_35_6 h_a_36_5 h_a_3_1 h_a_3_6 h_a_4_6  b ?_
  refine ch_X12_plainest_285 S  h_a_0_0 h_a_0_1 h_a_0_2 h_a_1_0 h_a_1_1 h_a_1_2 h_a_1_3 h_a_1_5 h_a_1_6 h_a_1_7 h_a_2_0 h_a_2_1 h_a_2_2 h_a_31_10 h_a_31_11 h_a_33_7 h_a_33_8 h_a_35_7 h_a_35_8 h_a_36_6 h_a_36_7 h_a_36_8 h_a_3_0 h_a_3_1 h_a_3_2 h_a_3_5 h_a_3_6 h_a_4_0 h_a_4_1 h_a_4_2 h_a_4_3 h_a_4_5 h_a_4_6 h_a_4_7 h_i_0  b ?_
  refine ch_X12_plainest_286 S  h_a_0_1 h_a_1_4 h_a_1_5 h_a_2_2 h_a_31_10 h_a_31_15 h_a_31_9 h_a_32_0 h_a_33_0 h_a_33_1 h_a_35_0 h_a_36_0 h_a_3_4 h_a_4_4  b ?_
  refine ch_X12_plainest_287 S  h_a_0_2 h_a_1_3 h_a_2_1 h_a_31_10 h_a_31_11 h_a_31_16 h_a_31_9 h_a_32_1 h_a_33_2 h_a_35_1 h_a_35_2 h_a_36_1 h_a_36_2 h_a_3_3 h_a_3_5 h_a_4_3 h_a_4_5  b ?_
  refine ch_X12_plainest_288 S  h_a_1_6 h_a_1_7 h_a_1_8 h_a_31_10 h_a_31_11 h_a_33_3 h_a_33_4 h_a_33_5 h_a_35_3 h_a_35_4 h_a_35_5 h_a_36_3 h_a_36_4 h_a_3_6 h_a_3_7 h_a_3_8 h_a_4_7 h_a_4_8  b ?_
  refine ch_X12_plainest_289 S  h_a_0_0 h_a_1_1 h_a_2_0 h_a_31_10 h_a_31_11 h_a_31_17 h_a_31_9 h_a_32_2 h_a_33_6 h_a_33_7 h_a_35_6 h_a_36_5 h_a_36_6 h_a_3_1 h_a_4_1 h_a_4_6  b ?_
  refine ch_X12_plainest_290 S  h_a_0_0 h_a_0_1 h_a_0_2 h_a_1_0 h_a_1_1 h_a_1_2 h_a_1_3 h_a_1_5 h_a_1_6 h_a_1_7 h_a_2_0 h_a_2_1 h_a_2_2 h_a_31_0 h_a_31_11 h_a_31_12 h_a_32_0 h_a_33_8 h_a_35_7 h_a_35_8 h_a_36_7 h_a_36_8 h_a_3_0 h_a_3_1 h_a_3_2 h_a_3_5 h_a_3_6 h_a_4_0 h_a_4_1 h_a_4_2 h_a_4_3 h_a_4_5 h_a_4_6 h_a_4_7 h_i_0  b ?_
  refine ch_X12_plainest_291 S  h_a_1_6 h_a_1_8 h_a_2_0 h_a_31_12 h_a_31_13 h_a_31_14 h_a_33_0 h_a_33_1 h_a_35_0 h_a_35_1 h_a_36_0 h_a_36_1 h_a_3_6 h_a_3_8 h_a_4_6 h_a_4_8  b ?_
  refine ch_X12_plainest_292 S  h_a_0_0 h_a_1_2 h_a_1_7 h_a_2_1 h_a_31_1 h_a_31_12 h_a_31_13 h_a_32_1 h_a_33_2 h_a_33_3 h_a_35_2 h_a_35_3 h_a_36_2 h_a_36_3 h_a_3_2 h_a_3_7 h_a_4_2 h_a_4_7  b ?_
  refine ch_X12_plainest_293 S  h_a_0_1 h_a_1_0 h_a_1_1 h_a_31_13 h_a_31_14 h_a_31_2 h_a_32_2 h_a_33_4 h_a_33_5 h_a_35_4 h_a_35_5 h_a_36_4 h_a_36_5 h_a_3_0 h_a_3_1 h_a_4_0 h_a_4_1  b ?_
  refine ch_X12_plainest_294 S  h_a_1_3 h_a_1_5 h_a_2_2 h_a_31_12 h_a_31_13 h_a_31_14 h_a_33_6 h_a_33_7 h_a_35_6 h_a_35_7 h_a_36_6 h_a_36_7 h_a_3_3 h_a_3_5 h_a_4_3 h_a_4_5  b ?_
  refine ch_X12_plainest_295 S  h_a_0_0 h_a_0_1 h_a_0_2 h_a_1_1 h_a_1_2 h_a_1_3 h_a_1_4 h_a_1_5 h_a_1_6 h_a_1_7 h_a_1_8 h_a_2_0 h_a_2_1 h_a_2_2 h_a_31_12 h_a_31_14 h_a_31_3 h_a_32_0 h_a_33_0 h_a_33_8 h_a_35_8 h_a_36_8 h_a_3_1 h_a_3_4 h_a_3_5 h_a_3_6 h_a_4_1 h_a_4_2 h_a_4_3 h_a_4_4 h_a_4_5 h_a_4_6 h_a_4_7 h_i_0  b ?_
  refine ch_X12_plainest_296 S  h_a_1_6 h_a_1_7 h_a_31_12 h_a_31_13 h_a_31_14 h_a_33_1 h_a_33_2 h_a_35_0 h_a_35_1 h_a_35_2 h_a_36_0 h_a_36_1 h_a_36_2 h_a_3_6 h_a_3_7 h_a_3_8 h_a_4_6 h_a_4_7 h_a_4_8  b ?_
  refine ch_X12_plainest_297 S  h_a_0_0 h_a_1_0 h_a_1_2 h_a_2_2 h_a_31_12 h_a_31_13 h_a_31_4 h_a_32_1 h_a_33_3 h_a_33_4 h_a_35_3 h_a_35_4 h_a_36_3 h_a_3_0 h_a_3_2 h_a_4_2  b ?_
  refine ch_X12_plainest_298 S  h_a_0_1 h_a_1_1 h_a_2_1 h_a_31_12 h_a_31_13 h_a_31_14 h_a_31_5 h_a_32_2 h_a_33_5 h_a_35_5 h_a_36_4 h_a_36_5 h_a_3_1 h_a_4_0 h_a_4_1  b ?_
  refine ch_X12_plainest_299 S  h_a_1_3 h_a_1_4 h_a_1_5 h_a_31_13 h_a_31_14 h_a_33_6 h_a_33_7 h_a_33_8 h_a_35_6 h_a_35_7 h_a_35_8 h_a_36_6 h_a_36_7 h_a_3_3 h_a_3_4 h_a_3_5 h_a_4_3 h_a_4_5  b ?_
  refine ch_X12_plainest_300 S  h_a_0_0 h_a_0_1 h_a_0_2 h_a_1_1 h_a_1_2 h_a_1_3 h_a_1_5 h_a_1_6 h_a_1_7 h_a_1_8 h_a_2_0 h_a_2_1 h_a_2_2 h_a_31_12 h_a_31_13 h_a_31_6 h_a_32_0 h_a_33_0 h_a_35_0 h_a_36_0 h_a_36_8 h_a_3_1 h_a_3_5 h_a_3_6 h_a_3_8 h_a_4_1 h_a_4_2 h_a_4_3 h_a_4_4 h_a_4_5 h_a_4_6 h_a_4_7 h_a_4_8 h_i_0  b ?_
  refine ch_X12_plainest_301 S  h_a_0_0 h_a_1_6 h_a_1_7 h_a_2_0 h_a_31_12 h_a_31_13 h_a_31_14 h_a_31_7 h_a_32_1 h_a_33_1 h_a_33_2 h_a_35_1 h_a_35_2 h_a_36_1 h_a_36_2 h_a_3_6 h_a_3_7 h_a_4_6 h_a_4_7  b ?_
  refine ch_X12_plainest_302 S  h_a_1_0 h_a_1_2 h_a_31_12 h_a_31_13 h_a_31_14 h_a_33_3 h_a_33_4 h_a_35_3 h_a_35_4 h_a_36_3 h_a_36_4 h_a_3_0 h_a_3_2 h_a_4_0 h_a_4_2  b ?_
  refine ch_X12_plainest_303 S  h_a_0_1 h_a_1_1 h_a_1_5 h_a_2_2 h_a_31_12 h_a_31_14 h_a_31_8 h_a_32_2 h_a_33_5 h_a_33_6 h_a_35_5 h_a_35_6 h_a_36_5 h_a_36_6 h_a_3_1 h_a_3_5 h_a_4_1 h_a_4_5  b ?_
  refine ch_X12_plainest_304 S  h_a_0_0 h_a_0_1 h_a_0_2 h_a_1_1 h_a_1_2 h_a_1_3 h_a_1_4 h_a_1_5 h_a_1_6 h_a_1_7 h_a_2_0 h_a_2_1 h_a_2_2 h_a_31_12 h_a_31_13 h_a_31_14 h_a_33_7 h_a_33_8 h_a_35_7 h_a_35_8 h_a_36_7 h_a_36_8 h_a_3_1 h_a_3_3 h_a_3_4 h_a_3_5 h_a_3_6 h_a_4_1 h_a_4_2 h_a_4_3 h_a_4_4 h_a_4_5 h_a_4_6 h_a_4_7 h_i_0  b ?_
  refine ch_X12_plainest_305 S  h_a_0_2 h_a_1_6 h_a_1_8 h_a_2_1 h_a_31_12 h_a_31_13 h_a_31_9 h_a_32_0 h_a_33_0 h_a_33_1 h_a_35_0 h_a_35_1 h_a_36_0 h_a_36_1 h_a_3_6 h_a_3_8 h_a_4_6 h_a_4_8  b ?_
  refine ch_X12_plainest_306 S  h_a_0_0 h_a_1_2 h_a_1_7 h_a_2_2 h_a_31_10 h_a_31_12 h_a_31_13 h_a_31_14 h_a_32_1 h_a_33_2 h_a_33_3 h_a_35_2 h_a_36_2 h_a_3_7 h_a_4_7  b ?_
  refine ch_X12_plainest_307 S  h_a_1_0 h_a_1_1 h_a_31_13 h_a_31_14 h_a_33_4 h_a_33_5 h_a_35_3 h_a_35_4 h_a_35_5 h_a_36_3 h_a_36_4 h_a_36_5 h_a_3_0 h_a_3_1 h_a_3_2 h_a_4_0 h_a_4_1 h_a_4_2  b ?_
  refine ch_X12_plainest_308 S  h_a_0_1 h_a_1_3 h_a_1_5 h_a_2_0 h_a_31_11 h_a_31_12 h_a_31_13 h_a_31_14 h_a_32_2 h_a_33_6 h_a_33_7 h_a_35_6 h_a_35_7 h_a_36_6 h_a_3_3 h_a_3_5 h_a_4_5  b ?_
  refine ch_X12_plainest_309 S  h_a_0_0 h_a_0_1 h_a_0_2 h_a_1_1 h_a_1_2 h_a_1_3 h_a_1_4 h_a_1_5 h_a_1_6 h_a_1_7 h_a_2_0 h_a_2_1 h_a_2_2 h_a_31_12 h_a_31_14 h_a_32_0 h_a_33_8 h_a_35_8 h_a_36_7 h_a_36_8 h_a_3_1 h_a_3_4 h_a_3_5 h_a_3_6 h_a_4_1 h_a_4_2 h_a_4_3 h_a_4_4 h_a_4_5 h_a_4_6 h_a_4_7 h_i_0  b ?_
  refine ch_X12_plainest_310 S  h_a_1_6 h_a_1_7 h_a_1_8 h_a_31_12 h_a_31_13 h_a_31_14 h_a_33_0 h_a_33_1 h_a_33_2 h_a_35_0 h_a_35_1 h_a_36_0 h_a_36_1 h_a_3_6 h_a_3_8 h_a_4_6 h_a_4_8  b ?_
  refine ch_X12_plainest_311 S  h_a_0_0 h_a_1_2 h_a_2_0 h_a_31_12 h_a_31_13 h_a_32_1 h_a_33_3 h_a_35_2 h_a_35_3 h_a_36_2 h_a_36_3 h_a_3_2 h_a_3_7 h_a_4_2 h_a_4_7  b ?_
  refine ch_X12_plainest_312 S  h_a_0_1 h_a_1_0 h_a_1_1 h_a_2_1 h_a_31_13 h_a_31_14 h_a_32_2 h_a_33_4 h_a_33_5 h_a_35_4 h_a_35_5 h_a_36_4 h_a_36_5 h_a_3_0 h_a_3_1 h_a_4_0 h_a_4_1  b ?_
  refine ch_X12_plainest_313 S  h_a_1_3 h_a_1_5 h_a_31_12 h_a_31_13 h_a_31_14 h_a_33_6 h_a_33_7 h_a_33_8 h_a_35_6 h_a_35_7 h_a_36_6 h_a_36_7 h_a_3_3 h_a_3_5 h_a_4_3 h_a_4_5  b ?_
  refine ch_X12_plainest_314 S  h_a_0_0 h_a_0_1 h_a_0_2 h_a_1_1 h_a_1_2 h_a_1_3 h_a_1_4 h_a_1_5 h_a_1_6 h_a_1_7 h_a_1_8 h_a_2_0 h_a_2_1 h_a_2_2 h_a_31_12 h_a_31_15 h_a_32_0 h_a_33_0 h_a_35_0 h_a_35_8 h_a_36_8 h_a_3_1 h_a_3_4 h_a_3_5 h_a_3_6 h_a_3_8 h_a_4_1 h_a_4_2 h_a_4_3 h_a_4_4 h_a_4_5 h_a_4_6 h_a_4_7 h_i_0  b ?_
  refine ch_X12_plainest_315 S  h_a_1_6 h_a_1_7 h_a_31_12 h_a_31_13 h_a_31_14 h_a_32_1 h_a_33_1 h_a_33_2 h_a_35_1 h_a_35_2 h_a_36_0 h_a_36_1 h_a_36_2 h_a_3_6 h_a_3_7 h_a_4_6 h_a_4_7 h_a_4_8  b ?_
  refine ch_X12_plainest_316 S  h_a_0_0 h_a_1_0 h_a_1_2 h_a_2_1 h_a_31_12 h_a_31_13 h_a_31_16 h_a_33_3 h_a_33_4 h_a_35_3 h_a_35_4 h_a_36_3 h_a_36_4 h_a_3_0 h_a_3_2 h_a_4_0 h_a_4_2  b ?_
  refine ch_X12_plainest_317 S  h_a_0_1 h_a_1_1 h_a_1_5 h_a_2_0 h_a_31_12 h_a_31_13 h_a_31_14 h_a_31_17 h_a_32_2 h_a_33_5 h_a_33_6 h_a_35_5 h_a_35_6 h_a_36_5 h_a_3_1 h_a_3_5 h_a_4_1  b ?_
  refine ch_X12_plainest_318 S  h_a_0_0 h_a_0_1 h_a_0_2 h_a_1_1 h_a_1_2 h_a_1_3 h_a_1_4 h_a_1_5 h_a_1_6 h_a_1_7 h_a_2_0 h_a_2_1 h_a_2_2 h_a_31_13 h_a_31_14 h_a_33_7 h_a_33_8 h_a_35_7 h_a_35_8 h_a_36_6 h_a_36_7 h_a_36_8 h_a_3_1 h_a_3_3 h_a_3_4 h_a_3_5 h_a_3_6 h_a_4_1 h_a_4_2 h_a_4_3 h_a_4_4 h_a_4_5 h_a_4_6 h_a_4_7 h_i_0  b ?_
  refine ch_X12_plainest_319 S  h_a_0_2 h_a_1_7 h_a_1_8 h_a_2_0 h_a_31_0 h_a_31_15 h_a_31_16 h_a_32_0 h_a_33_0 h_a_33_1 h_a_35_0 h_a_36_0 h_a_3_8 h_a_4_8  b ?_
  refine ch_X12_plainest_320 S  h_a_0_1 h_a_1_6 h_a_2_1 h_a_31_1 h_a_31_15 h_a_31_16 h_a_31_17 h_a_32_1 h_a_33_2 h_a_35_1 h_a_35_2 h_a_36_1 h_a_36_2 h_a_3_6 h_a_3_7 h_a_4_6 h_a_4_7  b ?_
  refine ch_X12_plainest_321 S  h_a_1_3 h_a_1_4 h_a_1_5 h_a_31_16 h_a_31_17 h_a_33_3 h_a_33_4 h_a_33_5 h_a_35_3 h_a_35_4 h_a_35_5 h_a_36_3 h_a_36_4 h_a_3_4 h_a_3_5 h_a_4_4 h_a_4_5  b ?_
  refine ch_X12_plainest_322 S  h_a_0_0 h_a_1_2 h_a_2_2 h_a_31_15 h_a_31_16 h_a_31_17 h_a_31_2 h_a_32_2 h_a_33_6 h_a_35_6 h_a_36_5 h_a_36_6 h_a_3_2 h_a_3_3 h_a_4_2 h_a_4_3  b ?_
  refine ch_X12_plainest_323 S  h_a_0_0 h_a_0_1 h_a_0_2 h_a_1_0 h_a_1_1 h_a_1_2 h_a_1_3 h_a_1_5 h_a_1_6 h_a_1_7 h_a_2_0 h_a_2_1 h_a_2_2 h_a_31_15 h_a_31_17 h_a_31_3 h_a_32_0 h_a_33_7 h_a_33_8 h_a_35_7 h_a_35_8 h_a_36_7 h_a_36_8 h_a_3_0 h_a_3_1 h_a_3_5 h_a_3_6 h_a_4_0 h_a_4_1 h_a_4_2 h_a_4_3 h_a_4_5 h_a_4_6 h_a_4_7 h_i_0  b ?_
  refine ch_X12_plainest_324 S  h_a_1_7 h_a_1_8 h_a_2_0 h_a_31_15 h_a_31_16 h_a_33_0 h_a_33_1 h_a_35_0 h_a_35_1 h_a_36_0 h_a_36_1 h_a_3_7 h_a_3_8 h_a_4_7 h_a_4_8  b ?_
  refine ch_X12_plainest_325 S  h_a_0_1 h_a_1_5 h_a_1_6 h_a_2_2 h_a_31_15 h_a_31_16 h_a_31_17 h_a_31_4 h_a_32_1 h_a_33_2 h_a_33_3 h_a_35_2 h_a_35_3 h_a_36_2 h_a_36_3 h_a_3_5 h_a_3_6 h_a_4_5 h_a_4_6  b ?_
  refine ch_X12_plainest_326 S  h_a_0_0 h_a_1_3 h_a_1_4 h_a_31_16 h_a_31_17 h_a_32_2 h_a_33_4 h_a_33_5 h_a_35_4 h_a_35_5 h_a_36_4 h_a_36_5 h_a_3_3 h_a_3_4 h_a_4_3 h_a_4_4  b ?_
  refine ch_X12_plainest_327 S  h_a_1_1 h_a_1_2 h_a_2_1 h_a_31_15 h_a_31_16 h_a_31_17 h_a_31_5 h_a_33_6 h_a_33_7 h_a_35_6 h_a_35_7 h_a_36_6 h_a_36_7 h_a_3_1 h_a_3_2 h_a_4_1 h_a_4_2  b ?_
  refine ch_X12_plainest_328 S  h_a_0_0 h_a_0_1 h_a_0_2 h_a_1_0 h_a_1_1 h_a_1_2 h_a_1_3 h_a_1_5 h_a_1_6 h_a_1_7 h_a_2_0 h_a_2_1 h_a_2_2 h_a_31_15 h_a_31_17 h_a_31_6 h_a_32_0 h_a_33_0 h_a_33_8 h_a_35_8 h_a_36_8 h_a_3_0 h_a_3_1 h_a_3_5 h_a_3_6 h_a_4_0 h_a_4_1 h_a_4_2 h_a_4_3 h_a_4_5 h_a_4_6 h_a_4_7 h_i_0  b ?_
  refine ch_X12_plainest_329 S  h_a_1_6 h_a_1_7 h_a_1_8 h_a_31_15 h_a_31_16 h_a_31_17 h_a_33_1 h_a_33_2 h_a_35_0 h_a_35_1 h_a_35_2 h_a_36_0 h_a_36_1 h_a_36_2 h_a_3_6 h_a_3_7 h_a_3_8 h_a_4_6 h_a_4_7 h_a_4_8  b ?_
  refine ch_X12_plainest_330 S  h_a_0_1 h_a_1_4 h_a_1_5 h_a_2_0 h_a_31_15 h_a_31_16 h_a_31_7 h_a_32_1 h_a_33_3 h_a_33_4 h_a_35_3 h_a_36_3 h_a_3_5 h_a_4_5  b ?_
  refine ch_X12_plainest_331 S  h_a_0_0 h_a_1_3 h_a_2_2 h_a_31_15 h_a_31_16 h_a_31_17 h_a_31_8 h_a_32_2 h_a_33_5 h_a_35_4 h_a_35_5 h_a_36_4 h_a_36_5 h_a_3_3 h_a_3_4 h_a_4_3 h_a_4_4  b ?_
  refine ch_X12_plainest_332 S  h_a_1_0 h_a_1_1 h_a_1_2 h_a_31_16 h_a_31_17 h_a_33_6 h_a_33_7 h_a_33_8 h_a_35_6 h_a_35_7 h_a_35_8 h_a_36_6 h_a_36_7 h_a_3_0 h_a_3_1 h_a_3_2 h_a_4_1 h_a_4_2  b ?_
  refine ch_X12_plainest_333 S  h_a_0_0 h_a_0_1 h_a_0_2 h_a_1_1 h_a_1_2 h_a_1_3 h_a_1_5 h_a_1_6 h_a_1_7 h_a_1_8 h_a_2_0 h_a_2_1 h_a_2_2 h_a_31_15 h_a_31_9 h_a_32_0 h_a_33_0 h_a_35_0 h_a_36_0 h_a_36_8 h_a_3_1 h_a_3_5 h_a_3_6 h_a_3_8 h_a_4_0 h_a_4_1 h_a_4_2 h_a_4_3 h_a_4_5 h_a_4_6 h_a_4_7 h_a_4_8 h_i_0  b ?_
  refine ch_X12_plainest_334 S  h_a_0_1 h_a_1_6 h_a_1_7 h_a_31_10 h_a_31_15 h_a_31_16 h_a_31_17 h_a_32_1 h_a_33_1 h_a_33_2 h_a_35_1 h_a_35_2 h_a_36_1 h_a_36_2 h_a_3_6 h_a_3_7 h_a_4_6 h_a_4_7  b ?_
  refine ch_X12_plainest_335 S  h_a_1_4 h_a_1_5 h_a_2_2 h_a_31_15 h_a_31_16 h_a_31_17 h_a_33_3 h_a_33_4 h_a_35_3 h_a_35_4 h_a_36_3 h_a_36_4 h_a_3_4 h_a_3_5 h_a_4_4 h_a_4_5  b ?_
  refine ch_X12_plainest_336 S  h_a_0_0 h_a_1_2 h_a_1_3 h_a_2_0 h_a_31_11 h_a_31_15 h_a_31_17 h_a_32_2 h_a_33_5 h_a_33_6 h_a_35_5 h_a_35_6 h_a_36_5 h_a_36_6 h_a_3_2 h_a_3_3 h_a_4_2 h_a_4_3  b ?_
  refine ch_X12_plainest_337 S  h_a_0_0 h_a_0_1 h_a_0_2 h_a_1_0 h_a_1_1 h_a_1_2 h_a_1_3 h_a_1_5 h_a_1_6 h_a_1_7 h_a_2_0 h_a_2_1 h_a_2_2 h_a_31_16 h_a_31_17 h_a_33_7 h_a_33_8 h_a_35_7 h_a_35_8 h_a_36_7 h_a_36_8 h_a_3_0 h_a_3_1 h_a_3_5 h_a_3_6 h_a_4_0 h_a_4_1 h_a_4_2 h_a_4_3 h_a_4_5 h_a_4_6 h_a_4_7 h_i_0  b ?_
  refine ch_X12_plainest_338 S  h_a_0_2 h_a_1_7 h_a_1_8 h_a_2_2 h_a_31_12 h_a_31_15 h_a_31_16 h_a_32_0 h_a_33_0 h_a_33_1 h_a_35_0 h_a_35_1 h_a_36_0 h_a_3_7 h_a_3_8 h_a_4_8  b ?_
  refine ch_X12_plainest_339 S  h_a_0_1 h_a_1_5 h_a_1_6 h_a_2_0 h_a_31_13 h_a_31_15 h_a_31_16 h_a_31_17 h_a_32_1 h_a_33_2 h_a_33_3 h_a_35_2 h_a_36_1 h_a_36_2 h_a_3_6 h_a_4_6 h_a_4_7  b ?_
  refine ch_X12_plainest_340 S  h_a_1_3 h_a_1_4 h_a_31_16 h_a_31_17 h_a_33_4 h_a_33_5 h_a_35_3 h_a_35_4 h_a_35_5 h_a_36_3 h_a_36_4 h_a_36_5 h_a_3_3 h_a_3_4 h_a_3_5 h_a_4_3 h_a_4_4 h_a_4_5  b ?_
  refine ch_X12_plainest_341 S  h_a_0_0 h_a_1_1 h_a_1_2 h_a_2_1 h_a_31_14 h_a_31_15 h_a_31_16 h_a_31_17 h_a_32_2 h_a_33_6 h_a_33_7 h_a_35_6 h_a_35_7 h_a_36_6 h_a_3_2 h_a_4_2  b ?_
  refine ch_X12_plainest_342 S  h_a_0_0 h_a_0_1 h_a_0_2 h_a_1_0 h_a_1_1 h_a_1_2 h_a_1_3 h_a_1_5 h_a_1_6 h_a_1_7 h_a_2_0 h_a_2_1 h_a_2_2 h_a_31_15 h_a_31_17 h_a_32_0 h_a_33_8 h_a_35_8 h_a_36_7 h_a_36_8 h_a_3_0 h_a_3_1 h_a_3_5 h_a_3_6 h_a_4_0 h_a_4_1 h_a_4_2 h_a_4_3 h_a_4_5 h_a_4_6 h_a_4_7 h_i_0  b ?_
  refine ch_X12_plainest_343 S  h_a_1_6 h_a_1_7 h_a_1_8 h_a_31_15 h_a_31_16 h_a_31_17 h_a_33_0 h_a_33_1 h_a_33_2 h_a_35_0 h_a_35_1 h_a_36_0 h_a_36_1 h_a_3_7 h_a_3_8 h_a_4_7 h_a_4_8  b ?_
  refine ch_X12_plainest_344 S  h_a_0_1 h_a_1_5 h_a_2_1 h_a_31_15 h_a_31_16 h_a_32_1 h_a_33_3 h_a_35_2 h_a_35_3 h_a_36_2 h_a_36_3 h_a_3_5 h_a_3_6 h_a_4_5 h_a_4_6  b ?_
  refine ch_X12_plainest_345 S  h_a_0_0 h_a_1_3 h_a_1_4 h_a_2_0 h_a_31_16 h_a_31_17 h_a_32_2 h_a_33_4 h_a_33_5 h_a_35_4 h_a_35_5 h_a_36_4 h_a_36_5 h_a_3_3 h_a_3_4 h_a_4_3 h_a_4_4  b ?_
  refine ch_X12_plainest_346 S  h_a_1_1 h_a_1_2 h_a_31_15 h_a_31_16 h_a_31_17 h_a_33_6 h_a_33_7 h_a_35_6 h_a_35_7 h_a_36_6 h_a_36_7 h_a_3_1 h_a_3_2 h_a_4_1 h_a_4_2  b ?_
  refine z_iconst (v := 3) b dX12_plainest_228 (by decide) ?_
  refine z_iload b dX12_plainest_229 rfl ?_
  refine z_imul (v := 6) b dX12_plainest_231 (by decide) ?_
  refine z_iload b dX12_plainest_232 rfl ?_
  refine z_iadd (v := 8) b dX12_plainest_234 (by decide) ?_
  refine y_iald (q0 := 35) (j := 8) (v := (ar (su (su (su S 34 0 3) 34 1 3) 34 2 3) 33 8)) b (mw_35 cy a (su (su (su S 34 0 3) 34 1 3) 34 2 3)) (by decide) rfl dX12_plainest_235 ?_
  refine z_eqi h_a_33_8 ?_
  refine y_iast (q0 := 2) (j := 0) b (mw_2 cy a (su (su (su S 34 0 3) 34 1 3) 34 2 3)) (by decide) dX12_plainest_236 ((mwa_2 cy a (su (su (su S 34 0 3) 34 1 3) 34 2 3) 0 0).trans (congrArg (mw cy a) (su_same h_a_1_0))) ?_
  refine z_aload_n b dX12_plainest_237 rfl rfl ?_
  refine z_get (q0 := 0) (k9 := 3) (v := .ref (a 4)) b (mw_0 cy a (su (su (su S 34 0 3) 34 1 3) 34 2 3)) rfl in_X12 (by decide) wf_X12_23 rfl dX12_plainest_238 ?_
  refine z_iload b dX12_plainest_241 rfl ?_
  refine z_aload_n b dX12_plainest_243 rfl rfl ?_
  refine z_get (q0 := 0) (k9 := 62) (v := .ref (a 37)) b (mw_0 cy a (su (su (su S 34 0 3) 34 1 3) 34 2 3)) rfl in_X12 (by decide) wf_X12_128 rfl dX12_plainest_244 ?_
  refine z_iconst (v := 3) b dX12_plainest_247 (by decide) ?_
  refine z_iload b dX12_plainest_248 rfl ?_
  refine z_imul (v := 6) b dX12_plainest_250 (by decide) ?_
  refine z_iload b dX12_plainest_251 rfl ?_
  refine z_iadd (v := 8) b dX12_plainest_253 (by decide) ?_
  refine y_zald (q0 := 37) (j := 8) (v := (ar (su (su (su S 34 0 3) 34 1 3) 34 2 3) 35 8)) b (mw_37 cy a (su (su (su S 34 0 3) 34 1 3) 34 2 3)) (by decide) rfl dX12_plainest_254 ?_
  refine z_eqi h_a_35_8 ?_
  refine y_zast (q0 := 4) (j := 0) b (mw_4 cy a (su (su (su S 34 0 3) 34 1 3) 34 2 3)) (by decide) (by decide) dX12_plainest_255 ((mwa_4 cy a (su (su (su S 34 0 3) 34 1 3) 34 2 3) 0 0).trans (congrArg (mw cy a) (su_same h_a_3_0))) ?_
  refine z_aload_n b dX12_plainest_256 rfl rfl ?_
  refine z_get (q0 := 0) (k9 := 4) (v := .ref (a 5)) b (mw_0 cy a (su (su (su S 34 0 3) 34 1 3) 34 2 3)) rfl in_X12 (by decide) wf_X12_27 rfl dX12_plainest_257 ?_
  refine z_iload b dX12_plainest_260 rfl ?_
  refine z_aload_n b dX12_plainest_262 rfl rfl ?_
  refine z_get (q0 := 0) (k9 := 63) (v := .ref (a 38)) b (mw_0 cy a (su (su (su S 34 0 3) 34 1 3) 34 2 3)) rfl in_X12 (by decide) wf_X12_131 rfl dX12_plainest_263 ?_
  refine z_iconst (v := 3) b dX12_plainest_266 (by decide) ?_
  refine z_iload b dX12_plainest_267 rfl ?_
  refine z_imul (v := 6) b dX12_plainest_269 (by decide) ?_
  refine z_iload b dX12_plainest_270 rfl ?_
  refine z_iadd (v := 8) b dX12_plainest_272 (by decide) ?_
  refine y_zald (q0 := 38) (j := 8) (v := (ar (su (su (su S 34 0 3) 34 1 3) 34 2 3) 36 8)) b (mw_38 cy a (su (su (su S 34 0 3) 34 1 3) 34 2 3)) (by decide) rfl dX12_plainest_273 ?_
  refine z_eqi h_a_36_8 ?_
  refine y_zast (q0 := 5) (j := 0) b (mw_5 cy a (su (su (su S 34 0 3) 34 1 3) 34 2 3)) (by decide) (by decide) dX12_plainest_274 ((mwa_5 cy a (su (su (su S 34 0 3) 34 1 3) 34 2 3) 0 0).trans (congrArg (mw cy a) (su_same h_a_4_0))) ?_
  refine z_iinc (k9 := 1) (v := 3) (lv' := [(7, .int 3), (8, .int 0), (6, .int 2), (5, .int 35), (3, .long 1649317774848), (0, .ref (a 0)), (1, .long 1649317774848)]) b dX12_plainest_275 rfl (by decide) (by decide) rfl ?_
  refine z_goto (tgt := 185) b dX12_plainest_278 (by decide) ?_
  refine z_iload b dX12_plainest_185 rfl ?_
  refine z_iconst (v := 3) b dX12_plainest_187 (by decide) ?_
  refine z_icmp_ge_t (tgt := 281) b dX12_plainest_188 (by decide) (by decide) ?_
  refine z_iinc (k9 := 2) (v := 3) (lv' := [(6, .int 3), (7, .int 3), (8, .int 0), (5, .int 35), (3, .long 1649317774848), (0, .ref (a 0)), (1, .long 1649317774848)]) b dX12_plainest_281 rfl (by decide) (by decide) rfl ?_
  refine z_goto (tgt := 121) b dX12_plainest_284 (by decide) ?_
  refine z_iload b dX12_plainest_121 rfl ?_
  refine z_iconst (v := 3) b dX12_plainest_123 (by decide) ?_
  refine z_icmp_ge_t (tgt := 287) b dX12_plainest_124 (by decide) (by decide) ?_
  refine z_aload_n b dX12_plainest_287 rfl rfl ?_
  refine z_calll b (z_runV (q0 := 0) (As := []) (st := []) b (c_X12_packs_14 (su (su (su S 34 0 3) 34 1 3) 34 2 3) h_i_0 h_a_0_0 h_a_2_0 h_a_3_1 h_a_1_1 h_a_4_1 h_a_1_2 h_a_4_2 h_a_0_1 h_a_2_1 h_a_3_5 h_a_1_5 h_a_4_5 h_a_1_3 h_a_4_3 h_a_0_2 h_a_2_2 h_a_3_6 h_a_1_6 h_a_4_6 h_a_1_7 h_a_4_7) cf_X12_packs (mw_0 cy a (su (su (su S 34 0 3) 34 1 3) 34 2 3)) rfl wm_X12_149 wi_X12_packs ws_X12_packs dX12_plainest_288 rfl (Nat.le_of_ble_eq_true rfl) ⟨by decide, by decide, by decide, by decide⟩) (fun r11685 u11686 h11684 => ?_)
  obtain ⟨rfl, rfl⟩ := h11684
  refine z_lstore (lv' := [(6, .long 1649317774848), (8, .int 0), (5, .int 35), (3, .long 1649317774848), (0, .ref (a 0)), (1, .long 1649317774848)]) b dX12_plainest_291 (by decide) rfl ?_
  refine z_lload b dX12_plainest_293 rfl ?_
  refine z_lload_n b dX12_plainest_295 rfl rfl ?_
  refine z_lcmp (v := 0) b dX12_plainest_296 (by decide) ?_
  refine z_if_ge_t (tgt := 305) b dX12_plainest_297 (by decide) (by decide) ?_
  refine z_lload_n b dX12_plainest_305 rfl rfl ?_
  refine z_lstore_n (lv' := [(3, .long 1649317774848), (6, .long 1649317774848), (8, .int 0), (5, .int 35), (0, .ref (a 0)), (1, .long 1649317774848)]) b dX12_plainest_306 rfl (by decide) rfl ?_
  refine z_iinc (k9 := 3) (v := 36) (lv' := [(5, .int 36), (3, .long 1649317774848), (6, .long 1649317774848), (8, .int 0), (0, .ref (a 0)), (1, .long 1649317774848)]) b dX12_plainest_307 rfl (by decide) (by decide) rfl ?_
  refine z_goto (tgt := 111) b dX12_plainest_310 (by decide) ?_
  refine z_iload b dX12_plainest_111 rfl ?_
  refine z_bipush (v := 36) b dX12_plainest_113 (by decide) ?_
  refine z_icmp_ge_t (tgt := 313) b dX12_plainest_115 (by decide) (by decide) ?_
  refine z_lload_n b dX12_plainest_313 rfl rfl ?_
  exact z_lret (u := (su (su (su S 34 0 3) 34 1 3) 34 2 3)) b rfl dX12_plainest_314 ⟨rfl, rfl⟩ rfl (by decide) (by decide)

set_option maxHeartbeats 4000000 in
set_option maxRecDepth 100000 in
theorem c_X12_met_8 {l : Launch} {D : va_G} {cy : Nat → ClassId} {T0 tB tE : Nat} {a : Nat → Nat} (S : GS) (p0 : Int32) (h_i_21 : fi S 21 = 0) (h_i_23 : fi S 23 = 0) (h_l_0 : fl S 0 = 1649317774848) (h_a_29_992 : ar S 29 992 = (-1)) (h_a_28_0 : ar S 28 0 = 0) (h_a_4_7 : ar S 4 7 = 0) (h_a_1_7 : ar S 1 7 = 0) (h_a_4_6 : ar S 4 6 = 0) (h_a_1_6 : ar S 1 6 = 0) (h_a_3_6 : ar S 3 6 = 0) (h_a_3_2 : ar S 3 2 = 0) (h_a_2_2 : ar S 2 2 = 3) (h_a_0_2 : ar S 0 2 = 0) (h_a_4_3 : ar S 4 3 = 0) (h_a_1_3 : ar S 1 3 = 0) (h_a_4_5 : ar S 4 5 = 0) (h_a_1_5 : ar S 1 5 = 0) (h_a_3_5 : ar S 3 5 = 0) (h_a_3_7 : ar S 3 7 = 0) (h_a_2_1 : ar S 2 1 = 3) (h_a_0_1 : ar S 0 1 = 0) (h_a_4_2 : ar S 4 2 = 0) (h_a_1_2 : ar S 1 2 = 0) (h_a_4_1 : ar S 4 1 = 0) (h_a_1_1 : ar S 1 1 = 0) (h_a_3_1 : ar S 3 1 = 0) (h_a_3_3 : ar S 3 3 = 0) (h_a_2_0 : ar S 2 0 = 3) (h_a_0_0 : ar S 0 0 = 0) (h_i_0 : fi S 0 = 0) (h_a_32_0 : ar S 32 0 = 0) (h_a_32_1 : ar S 32 1 = 0) (h_a_32_2 : ar S 32 2 = 0) (h_a_1_0 : ar S 1 0 = 0) (h_a_33_0 : ar S 33 0 = 0) (h_a_3_0 : ar S 3 0 = 0) (h_a_35_0 : ar S 35 0 = 0) (h_a_4_0 : ar S 4 0 = 0) (h_a_36_0 : ar S 36 0 = 0) (h_a_33_1 : ar S 33 1 = 0) (h_a_35_1 : ar S 35 1 = 0) (h_a_36_1 : ar S 36 1 = 0) (h_a_33_2 : ar S 33 2 = 0) (h_a_35_2 : ar S 35 2 = 0) (h_a_36_2 : ar S 36 2 = 0) (h_a_33_3 : ar S 33 3 = 0) (h_a_35_3 : ar S 35 3 = 0) (h_a_36_3 : ar S 36 3 = 0) (h_a_1_4 : ar S 1 4 = 0) (h_a_33_4 : ar S 33 4 = 0) (h_a_3_4 : ar S 3 4 = 0) (h_a_35_4 : ar S 35 4 = 0) (h_a_4_4 : ar S 4 4 = 0) (h_a_36_4 : ar S 36 4 = 0) (h_a_33_5 : ar S 33 5 = 0) (h_a_35_5 : ar S 35 5 = 0) (h_a_36_5 : ar S 36 5 = 0) (h_a_33_6 : ar S 33 6 = 0) (h_a_35_6 : ar S 35 6 = 0) (h_a_36_6 : ar S 36 6 = 0) (h_a_33_7 : ar S 33 7 = 0) (h_a_35_7 : ar S 35 7 = 0) (h_a_36_7 : ar S 36 7 = 0) (h_a_1_8 : ar S 1 8 = 0) (h_a_33_8 : ar S 33 8 = 0) (h_a_3_8 : ar S 3 8 = 0) (h_a_35_8 : ar S 35 8 = 0) (h_a_4_8 : ar S 4 8 = 0) (h_a_36_8 : ar S 36 8 = 0) (h_a_31_0 : ar S 31 0 = 0) (h_a_31_1 : ar S 31 1 = 1) (h_a_31_2 : ar S 31 2 = 2) (h_a_31_3 : ar S 31 3 = 0) (h_a_31_4 : ar S 31 4 = 2) (h_a_31_5 : ar S 31 5 = 1) (h_a_31_6 : ar S 31 6 = 1) (h_a_31_7 : ar S 31 7 = 0) (h_a_31_8 : ar S 31 8 = 2) (h_a_31_9 : ar S 31 9 = 1) (h_a_31_10 : ar S 31 10 = 2) (h_a_31_11 : ar S 31 11 = 0) (h_a_31_12 : ar S 31 12 = 2) (h_a_31_13 : ar S 31 13 = 0) (h_a_31_14 : ar S 31 14 = 1) (h_a_31_15 : ar S 31 15 = 2) (h_a_31_16 : ar S 31 16 = 1) (h_a_31_17 : ar S 31 17 = 0) (hr_p0 : 1 ≤ p0.toInt ∧ p0.toInt ≤ 3) : Ct l D cy T0 tB tE yX12_met cX12_met 10 (some .int) 3 75 0 0 (mw cy a S) [.ref (a 0), .int p0, .int 0, .int 1] (QI D (U := GS) (fun r u => 1 = r ∧ sv (su (su (su (si (su (su (sv (su (su (si S 22 (-1)) 29 992 0) 30 0 992) 0 0 1649317774848) 26 0 (-1)) 27 0 (-1)) 21 1) 34 0 3) 34 1 3) 34 2 3) 1 0 1649317774848 = u) (mw cy a)) := by
  refine Ct.ofZ RX12 "met" [(0, .ref (a 0)), (1, .int p0), (2, .int 0), (3, .int 1)] rfl rfl rfl rfl (Nat.le_of_ble_eq_true rfl) ?_
  intro p e R s m args below meth c A b
  refine z_aload_n b dX12_met_0 rfl rfl ?_
  refine z_iload_n b dX12_met_1 rfl rfl ?_
  refine z_iload_n b dX12_met_2 rfl rfl ?_
  refine z_calli b (z_runV (q0 := 0) (As := [.int p0, .int 0]) (st := []) b (c_X12_canSearch_4 S p0 ⟨by omega, by omega⟩) cf_X12_canSearch (mw_0 cy a S) rfl wm_X12_433 wi_X12_canSearch ws_X12_canSearch dX12_met_3 rfl (Nat.le_of_ble_eq_true rfl) ⟨by decide, by decide, by decide, by decide⟩) (fun r8655 u8656 h8654 => ?_)
  obtain ⟨rfl, rfl⟩ := h8654
  refine z_if_ne_t (tgt := 11) b dX12_met_6 (by decide) (by decide) ?_
  refine z_aload_n b dX12_met_11 rfl rfl ?_
  refine z_iconst (v := (-1)) b dX12_met_12 (by decide) ?_
  refine z_iload_n b dX12_met_13 rfl rfl ?_
  refine z_iload_n b dX12_met_14 rfl rfl ?_
  refine z_bipush (v := 7) b dX12_met_15 (by decide) ?_
  refine z_iconst (v := 0) b dX12_met_17 (by decide) ?_
  refine z_callv b (z_runV (q0 := 0) (As := [.int (-1), .int p0, .int 0, .int 7, .int 0]) (st := []) b (c_X12_searches S p0 h_i_21 h_i_23 h_l_0 h_a_29_992 h_a_28_0 ⟨by omega, by omega⟩) cf_X12_searches (mw_0 cy a S) rfl wm_X12_436 wi_X12_searches ws_X12_searches dX12_met_18 rfl (Nat.le_of_ble_eq_true rfl) ⟨by decide, by decide, by decide, by decide⟩) (fun u8659 h8657 => ?_)
  obtain rfl := h8657
  refine z_aload_n b dX12_met_21 rfl rfl ?_
  refine z_get (q0 := 0) (k9 := 57) (v := .int (fi (si (su (su (sv (su (su (si S 22 (-1)) 29 992 0) 30 0 992) 0 0 1649317774848) 26 0 (-1)) 27 0 (-1)) 21 1) 23)) b (mw_0 cy a (si (su (su (sv (su (su (si S 22 (-1)) 29 992 0) 30 0 992) 0 0 1649317774848) 26 0 (-1)) 27 0 (-1)) 21 1)) rfl in_X12 (by decide) wf_X12_408 rfl dX12_met_22 ?_
  refine z_eqi h_i_23 ?_
  refine z_if_eq_t (tgt := 31) b dX12_met_25 (by decide) (by decide) ?_
  refine z_iload_n b dX12_met_31 rfl rfl ?_
  refine z_if_ne_t (tgt := 40) b dX12_met_32 (by decide) (by decide) ?_
  refine z_iconst (v := 0) b dX12_met_40 (by decide) ?_
  refine z_istore (lv' := [(4, .int 0), (0, .ref (a 0)), (1, .int p0), (2, .int 0), (3, .int 1)]) b dX12_met_41 (by decide) rfl ?_
  refine z_iconst (v := 0) b dX12_met_43 (by decide) ?_
  refine z_istore (lv' := [(5, .int 0), (4, .int 0), (0, .ref (a 0)), (1, .int p0), (2, .int 0), (3, .int 1)]) b dX12_met_44 (by decide) rfl ?_
  refine z_iload b dX12_met_46 rfl ?_
  refine z_aload_n b dX12_met_48 rfl rfl ?_
  refine z_get (q0 := 0) (k9 := 55) (v := .int 1) b (mw_0 cy a (si (su (su (sv (su (su (si S 22 (-1)) 29 992 0) 30 0 992) 0 0 1649317774848) 26 0 (-1)) 27 0 (-1)) 21 1)) rfl in_X12 (by decide) wf_X12_405 rfl dX12_met_49 ?_
  refine z_icmp_ge_f (tgt := 138) b dX12_met_52 (by decide) (by decide) ?_
  refine z_aload_n b dX12_met_55 rfl rfl ?_
  refine z_aload_n b dX12_met_56 rfl rfl ?_
  refine z_get (q0 := 0) (k9 := 49) (v := .ref (a 27)) b (mw_0 cy a (si (su (su (sv (su (su (si S 22 (-1)) 29 992 0) 30 0 992) 0 0 1649317774848) 26 0 (-1)) 27 0 (-1)) 21 1)) rfl in_X12 (by decide) wf_X12_97 rfl dX12_met_57 ?_
  refine z_iload b dX12_met_60 rfl ?_
  refine y_lald (q0 := 27) (j := 0) (v := 1649317774848) b (mw_27 cy a (si (su (su (sv (su (su (si S 22 (-1)) 29 992 0) 30 0 992) 0 0 1649317774848) 26 0 (-1)) 27 0 (-1)) 21 1)) (by decide) rfl dX12_met_62 ?_
  refine z_calll b (z_runV (q0 := 0) (As := [.long 1649317774848]) (st := []) b (c_X12_plainest (si (su (su (sv (su (su (si S 22 (-1)) 29 992 0) 30 0 992) 0 0 1649317774848) 26 0 (-1)) 27 0 (-1)) 21 1) h_a_4_7 h_a_1_7 h_a_4_6 h_a_1_6 h_a_3_6 h_a_3_2 h_a_2_2 h_a_0_2 h_a_4_3 h_a_1_3 h_a_4_5 h_a_1_5 h_a_3_5 h_a_3_7 h_a_2_1 h_a_0_1 h_a_4_2 h_a_1_2 h_a_4_1 h_a_1_1 h_a_3_1 h_a_3_3 h_a_2_0 h_a_0_0 h_i_0 h_a_32_0 h_a_32_1 h_a_32_2 h_a_1_0 h_a_33_0 h_a_3_0 h_a_35_0 h_a_4_0 h_a_36_0 h_a_33_1 h_a_35_1 h_a_36_1 h_a_33_2 h_a_35_2 h_a_36_2 h_a_33_3 h_a_35_3 h_a_36_3 h_a_1_4 h_a_33_4 h_a_3_4 h_a_35_4 h_a_4_4 h_a_36_4 h_a_33_5 h_a_35_5 h_a_36_5 h_a_33_6 h_a_35_6 h_a_36_6 h_a_33_7 h_a_35_7 h_a_36_7 h_a_1_8 h_a_33_8 h_a_3_8 h_a_35_8 h_a_4_8 h_a_36_8 h_a_31_0 h_a_31_1 h_a_31_2 h_a_31_3 h_a_31_4 h_a_31_5 h_a_31_6 h_a_31_7 h_a_31_8 h_a_31_9 h_a_31_10 h_a_31_11 h_a_31_12 h_a_31_13 h_a_31_14 h_a_31_15 h_a_31_16 h_a_31_17) cf_X12_plainest (mw_0 cy a (si (su (su (sv (su (su (si S 22 (-1)) 29 992 0) 30 0 992) 0 0 1649317774848) 26 0 (-1)) 27 0 (-1)) 21 1)) rfl wm_X12_448 wi_X12_plainest ws_X12_plainest dX12_met_63 rfl (Nat.le_of_ble_eq_true rfl) ⟨by decide, by decide, by decide, by decide⟩) (fun r11688 u11689 h11687 => ?_)
  obtain ⟨rfl, rfl⟩ := h11687
  refine z_lstore (lv' := [(6, .long 1649317774848), (5, .int 0), (4, .int 0), (0, .ref (a 0)), (1, .int p0), (2, .int 0), (3, .int 1)]) b dX12_met_66 (by decide) rfl ?_
  refine z_iconst (v := 1) b dX12_met_68 (by decide) ?_
  refine z_istore (lv' := [(8, .int 1), (6, .long 1649317774848), (5, .int 0), (4, .int 0), (0, .ref (a 0)), (1, .int p0), (2, .int 0), (3, .int 1)]) b dX12_met_69 (by decide) rfl ?_
  refine z_iconst (v := 0) b dX12_met_71 (by decide) ?_
  refine z_istore (lv' := [(9, .int 0), (8, .int 1), (6, .long 1649317774848), (5, .int 0), (4, .int 0), (0, .ref (a 0)), (1, .int p0), (2, .int 0), (3, .int 1)]) b dX12_met_72 (by decide) rfl ?_
  refine z_iload b dX12_met_74 rfl ?_
  refine z_iload b dX12_met_76 rfl ?_
  refine z_icmp_ge_t (tgt := 112) b dX12_met_78 (by decide) (by decide) ?_
  refine z_iload b dX12_met_112 rfl ?_
  refine z_if_ne_t (tgt := 120) b dX12_met_114 (by decide) (by decide) ?_
  refine z_aload_n b dX12_met_120 rfl rfl ?_
  refine z_get (q0 := 0) (k9 := 64) (v := .ref (a 39)) b (mw_0 cy a (su (su (su (si (su (su (sv (su (su (si S 22 (-1)) 29 992 0) 30 0 992) 0 0 1649317774848) 26 0 (-1)) 27 0 (-1)) 21 1) 34 0 3) 34 1 3) 34 2 3)) rfl in_X12 (by decide) wf_X12_134 rfl dX12_met_121 ?_
  refine z_iload b dX12_met_124 rfl ?_
  refine z_lload b dX12_met_126 rfl ?_
  refine y_last (q0 := 39) (j := 0) b (mw_39 cy a (su (su (su (si (su (su (sv (su (su (si S 22 (-1)) 29 992 0) 30 0 992) 0 0 1649317774848) 26 0 (-1)) 27 0 (-1)) 21 1) 34 0 3) 34 1 3) 34 2 3)) (by decide) dX12_met_128 (mwa_39 cy a (su (su (su (si (su (su (sv (su (su (si S 22 (-1)) 29 992 0) 30 0 992) 0 0 1649317774848) 26 0 (-1)) 27 0 (-1)) 21 1) 34 0 3) 34 1 3) 34 2 3) 0 1649317774848) ?_
  refine z_iinc (k9 := 4) (v := 1) (lv' := [(4, .int 1), (9, .int 0), (8, .int 1), (6, .long 1649317774848), (5, .int 0), (0, .ref (a 0)), (1, .int p0), (2, .int 0), (3, .int 1)]) b dX12_met_129 rfl (by decide) (by decide) rfl ?_
  refine z_iinc (k9 := 4) (v := 1) (lv' := [(5, .int 1), (4, .int 1), (9, .int 0), (8, .int 1), (6, .long 1649317774848), (0, .ref (a 0)), (1, .int p0), (2, .int 0), (3, .int 1)]) b dX12_met_132 rfl (by decide) (by decide) rfl ?_
  refine z_goto (tgt := 46) b dX12_met_135 (by decide) ?_
  refine z_iload b dX12_met_46 rfl ?_
  refine z_aload_n b dX12_met_48 rfl rfl ?_
  refine z_get (q0 := 0) (k9 := 55) (v := .int 1) b (mw_0 cy a (sv (su (su (su (si (su (su (sv (su (su (si S 22 (-1)) 29 992 0) 30 0 992) 0 0 1649317774848) 26 0 (-1)) 27 0 (-1)) 21 1) 34 0 3) 34 1 3) 34 2 3) 1 0 1649317774848)) rfl in_X12 (by decide) wf_X12_405 rfl dX12_met_49 ?_
  refine z_icmp_ge_t (tgt := 138) b dX12_met_52 (by decide) (by decide) ?_
  refine z_iload b dX12_met_138 rfl ?_
  exact z_iret (u := (sv (su (su (su (si (su (su (sv (su (su (si S 22 (-1)) 29 992 0) 30 0 992) 0 0 1649317774848) 26 0 (-1)) 27 0 (-1)) 21 1) 34 0 3) 34 1 3) 34 2 3) 1 0 1649317774848)) b rfl dX12_met_140 ⟨rfl, rfl⟩ rfl (by decide) (by decide)

set_option maxHeartbeats 4000000 in
set_option maxRecDepth 100000 in
theorem c_X11_isDepth_3 {l : Launch} {D : va_G} {cy : Nat → ClassId} {T0 tB tE : Nat} {a : Nat → Nat} {rw : Nat → Option Nat} (S : GS) (p0 : Int32)  (hr_p0 : 1 ≤ p0.toInt ∧ p0.toInt ≤ 6) : Ct l D cy T0 tB tE yX11_isDepth cX11_isDepth 1 (some .boolean) 0 0 0 0 (cw cy tE a rw S) [.int p0] (QI D (U := GS) (fun r u => 1 = r ∧ S = u) (cw cy tE a rw)) := by
  refine Ct.ofZ RX11 "isDepth" [(0, .int p0)] rfl rfl rfl rfl (Nat.le_of_ble_eq_true rfl) ?_
  intro p e R s m args below meth c A b
  refine z_iload_n b dX11_isDepth_0 rfl rfl ?_
  refine y_if_lt (tgt := 14) (xl := p0.toInt) b rfl dX11_isDepth_1 (by decide) (fun c11693 => ?_) (fun c11693 => ?_)
  · exfalso; omega
  · refine z_iload_n b dX11_isDepth_4 rfl rfl ?_
    refine z_bipush (v := 6) b dX11_isDepth_5 (by decide) ?_
    refine y_icmp_gt (tgt := 14) (xl := p0.toInt) (yl := 6) b rfl (by decide) dX11_isDepth_7 (by decide) (fun c11694 => ?_) (fun c11694 => ?_)
    · exfalso; omega
    · refine z_iconst (v := 1) b dX11_isDepth_10 (by decide) ?_
      refine z_goto (tgt := 15) b dX11_isDepth_11 (by decide) ?_
      exact z_zret (u := S) b rfl (by decide) dX11_isDepth_15 ⟨rfl, rfl⟩ rfl (by decide) (by decide)

set_option maxHeartbeats 4000000 in
set_option maxRecDepth 100000 in
theorem c_X8_begin_2 {l : Launch} {D : va_G} {cy : Nat → ClassId} {T0 tB tE : Nat} {a : Nat → Nat} {rw : Nat → Option Nat} (S : GS) (p0 : Int32) (p1 : Int32) (h_i_19 : fi S 19 = 0) (h_i_24 : fi S 24 = 0) (h_i_22 : fi S 22 = 0) (h_i_18 : fi S 18 = 0) (h_i_25 : fi S 25 = 0) (h_i_23 : fi S 23 = 0) (h_i_26 : fi S 26 = 0) (h_a_4_50 : ar S 4 50 = 0) (h_a_4_40 : ar S 4 40 = 3) (h_a_4_41 : ar S 4 41 = 3) (h_a_4_42 : ar S 4 42 = 3) (h_a_4_0 : ar S 4 0 = 0) (h_a_4_11 : ar S 4 11 = 0) (h_a_4_21 : ar S 4 21 = 0) (h_a_4_31 : ar S 4 31 = 0) (h_a_4_12 : ar S 4 12 = 0) (h_a_4_22 : ar S 4 22 = 0) (h_a_4_32 : ar S 4 32 = 0) (h_a_4_1 : ar S 4 1 = 0) (h_a_4_13 : ar S 4 13 = 0) (h_a_4_23 : ar S 4 23 = 0) (h_a_4_33 : ar S 4 33 = 0) (h_a_4_15 : ar S 4 15 = 0) (h_a_4_25 : ar S 4 25 = 0) (h_a_4_35 : ar S 4 35 = 0) (h_a_4_2 : ar S 4 2 = 0) (h_a_4_16 : ar S 4 16 = 0) (h_a_4_26 : ar S 4 26 = 0) (h_a_4_36 : ar S 4 36 = 0) (h_a_4_17 : ar S 4 17 = 0) (h_a_4_27 : ar S 4 27 = 0) (h_a_4_37 : ar S 4 37 = 0) (h_a_10_0 : ar S 10 0 = 0) (hr_p0 : 1 ≤ p0.toInt ∧ p0.toInt ≤ 3) (hr_p1 : 1 ≤ p1.toInt ∧ p1.toInt ≤ 6) : Ct l D cy T0 tB tE yX8_begin cX8_begin 6 none 3 71 0 0 (cw cy tE a rw S) [.ref (a 25), .int p0, .int p1, .int 7, .int 0] (QV D (U := GS) (fun u => su (si (su (su (sv (sa (si (si (si (si S 24 1) 19 p0) 20 p1) 21 7) 13 (fil 1024 0 (ar (si (si (si (si S 24 1) 19 p0) 20 p1) 21 7) 13))) 2 0 4128768) 11 0 (-1)) 12 0 (-1)) 25 1) 13 978 1 = u) (cw cy tE a rw)) := by
  refine Ct.ofZ RX8 "begin" [(0, .ref (a 25)), (1, .int p0), (2, .int p1), (3, .int 7), (4, .int 0)] rfl rfl rfl rfl (Nat.le_of_ble_eq_true rfl) ?_
  intro p e R s m args below meth c A b
  refine z_iload_n b dX8_begin_0 rfl rfl ?_
  refine z_aload_n b dX8_begin_1 rfl rfl ?_
  refine z_get (q0 := 25) (k9 := 11) (v := .int (fi S 19)) b (cw_25 cy tE a rw S) rfl in_X8 (by decide) wf_X8_45 rfl dX8_begin_2 ?_
  refine z_eqi h_i_19 ?_
  refine y_icmp_ne (tgt := 37) (xl := p0.toInt) (yl := 0) b rfl (by decide) dX8_begin_5 (by decide) (fun c11698 => ?_) (fun c11698 => ?_)
  · refine z_iconst (v := 0) b dX8_begin_37 (by decide) ?_
    refine z_istore (lv' := [(5, .int 0), (0, .ref (a 25)), (1, .int p0), (2, .int p1), (3, .int 7), (4, .int 0)]) b dX8_begin_38 (by decide) rfl ?_
    refine z_aload_n b dX8_begin_40 rfl rfl ?_
    refine z_get (q0 := 25) (k9 := 16) (v := .int (fi S 24)) b (cw_25 cy tE a rw S) rfl in_X8 (by decide) wf_X8_60 rfl dX8_begin_41 ?_
    refine z_eqi h_i_24 ?_
    refine z_if_eq_t (tgt := 53) b dX8_begin_44 (by decide) (by decide) ?_
    refine z_aload_n b dX8_begin_53 rfl rfl ?_
    refine z_iconst (v := 1) b dX8_begin_54 (by decide) ?_
    refine z_put (q0 := 25) (k9 := 16) tyX8 b (cw_25 cy tE a rw S) rfl in_X8 tyX8_ok nmX8 (by decide) wf_X8_60 rfl rfl rfl rfl (Nat.le_of_ble_eq_true rfl) dX8_begin_55 (cwp_25_16 cy tE a rw S 1) ?_
    refine z_aload_n b dX8_begin_58 rfl rfl ?_
    refine z_iload_n b dX8_begin_59 rfl rfl ?_
    refine z_put (q0 := 25) (k9 := 11) tyX8 b (cw_25 cy tE a rw (si S 24 1)) rfl in_X8 tyX8_ok nmX8 (by decide) wf_X8_45 rfl rfl rfl rfl (Nat.le_of_ble_eq_true rfl) dX8_begin_60 (cwp_25_11 cy tE a rw (si S 24 1) p0) ?_
    refine z_aload_n b dX8_begin_63 rfl rfl ?_
    refine z_iload_n b dX8_begin_64 rfl rfl ?_
    refine z_put (q0 := 25) (k9 := 12) tyX8 b (cw_25 cy tE a rw (si (si S 24 1) 19 p0)) rfl in_X8 tyX8_ok nmX8 (by decide) wf_X8_48 rfl rfl rfl rfl (Nat.le_of_ble_eq_true rfl) dX8_begin_65 (cwp_25_12 cy tE a rw (si (si S 24 1) 19 p0) p1) ?_
    refine z_aload_n b dX8_begin_68 rfl rfl ?_
    refine z_iload_n b dX8_begin_69 rfl rfl ?_
    refine z_put (q0 := 25) (k9 := 13) tyX8 b (cw_25 cy tE a rw (si (si (si S 24 1) 19 p0) 20 p1)) rfl in_X8 tyX8_ok nmX8 (by decide) wf_X8_51 rfl rfl rfl rfl (Nat.le_of_ble_eq_true rfl) dX8_begin_70 (cwp_25_13 cy tE a rw (si (si (si S 24 1) 19 p0) 20 p1) 7) ?_
    refine z_aload_n b dX8_begin_73 rfl rfl ?_
    refine z_iload b dX8_begin_74 rfl ?_
    refine z_put (q0 := 25) (k9 := 14) tyX8 b (cw_25 cy tE a rw (si (si (si (si S 24 1) 19 p0) 20 p1) 21 7)) rfl in_X8 tyX8_ok nmX8 (by decide) wf_X8_54 rfl rfl rfl rfl (Nat.le_of_ble_eq_true rfl) dX8_begin_76 ((cwp_25_14 cy tE a rw (si (si (si (si S 24 1) 19 p0) 20 p1) 21 7) 0).trans (congrArg (cw cy tE a rw) (si_same h_i_22))) ?_
    refine z_aload_n b dX8_begin_79 rfl rfl ?_
    refine z_callv b (z_runV (q0 := 25) (As := []) (st := []) b (c_X8_listCodes (si (si (si (si S 24 1) 19 p0) 20 p1) 21 7) h_i_18 rfl) cf_X8_listCodes (cw_25 cy tE a rw (si (si (si (si S 24 1) 19 p0) 20 p1) 21 7)) rfl wm_X8_77 wi_X8_listCodes ws_X8_listCodes dX8_begin_80 rfl (Nat.le_of_ble_eq_true rfl) ⟨by decide, by decide, by decide, by decide⟩) (fun u11701 h11699 => ?_)
    obtain rfl := h11699
    refine z_aload_n b dX8_begin_83 rfl rfl ?_
    refine z_get (q0 := 25) (k9 := 7) (v := .ref (a 32)) b (cw_25 cy tE a rw (si (si (si (si S 24 1) 19 p0) 20 p1) 21 7)) rfl in_X8 (by decide) wf_X8_32 rfl dX8_begin_84 ?_
    refine z_iconst (v := 0) b dX8_begin_87 (by decide) ?_
    refine z_callv b (z_runS (As := [.ref (a 32), .int 0]) (st := []) b (c_cw_fill_32 (si (si (si (si S 24 1) 19 p0) 20 p1) 21 7) 0) cf_J7_fill_53178 wm_X8_80 ws_J7_fill_53178 dX8_begin_88 rfl (Nat.le_of_ble_eq_true rfl) ⟨by decide, by decide, by decide, by decide⟩) (fun u11702 h11703 => ?_)
    obtain rfl := h11703
    refine z_aload_n b dX8_begin_91 rfl rfl ?_
    refine z_iconst (v := 0) b dX8_begin_92 (by decide) ?_
    refine z_put (q0 := 25) (k9 := 17) tyX8 b (cw_25 cy tE a rw (sa (si (si (si (si S 24 1) 19 p0) 20 p1) 21 7) 13 (fil 1024 0 (ar (si (si (si (si S 24 1) 19 p0) 20 p1) 21 7) 13)))) rfl in_X8 tyX8_ok nmX8 (by decide) wf_X8_64 rfl rfl rfl rfl (Nat.le_of_ble_eq_true rfl) dX8_begin_93 ((cwp_25_17 cy tE a rw (sa (si (si (si (si S 24 1) 19 p0) 20 p1) 21 7) 13 (fil 1024 0 (ar (si (si (si (si S 24 1) 19 p0) 20 p1) 21 7) 13))) 0).trans (congrArg (cw cy tE a rw) (si_same h_i_25))) ?_
    refine z_aload_n b dX8_begin_96 rfl rfl ?_
    refine z_iconst (v := 0) b dX8_begin_97 (by decide) ?_
    refine z_put (q0 := 25) (k9 := 15) tyX8 b (cw_25 cy tE a rw (sa (si (si (si (si S 24 1) 19 p0) 20 p1) 21 7) 13 (fil 1024 0 (ar (si (si (si (si S 24 1) 19 p0) 20 p1) 21 7) 13)))) rfl in_X8 tyX8_ok nmX8 (by decide) wf_X8_57 rfl rfl rfl rfl (Nat.le_of_ble_eq_true rfl) dX8_begin_98 ((cwp_25_15 cy tE a rw (sa (si (si (si (si S 24 1) 19 p0) 20 p1) 21 7) 13 (fil 1024 0 (ar (si (si (si (si S 24 1) 19 p0) 20 p1) 21 7) 13))) 0).trans (congrArg (cw cy tE a rw) (si_same h_i_23))) ?_
    refine z_aload_n b dX8_begin_101 rfl rfl ?_
    refine z_iconst (v := 0) b dX8_begin_102 (by decide) ?_
    refine z_put (q0 := 25) (k9 := 18) tyX8 b (cw_25 cy tE a rw (sa (si (si (si (si S 24 1) 19 p0) 20 p1) 21 7) 13 (fil 1024 0 (ar (si (si (si (si S 24 1) 19 p0) 20 p1) 21 7) 13)))) rfl in_X8 tyX8_ok nmX8 (by decide) wf_X8_67 rfl rfl rfl rfl (Nat.le_of_ble_eq_true rfl) dX8_begin_103 ((cwp_25_18 cy tE a rw (sa (si (si (si (si S 24 1) 19 p0) 20 p1) 21 7) 13 (fil 1024 0 (ar (si (si (si (si S 24 1) 19 p0) 20 p1) 21 7) 13))) 0).trans (congrArg (cw cy tE a rw) (si_same h_i_26))) ?_
    refine z_aload_n b dX8_begin_106 rfl rfl ?_
    refine z_aload_n b dX8_begin_107 rfl rfl ?_
    refine z_get (q0 := 25) (k9 := 1) (v := .ref (a 14)) b (cw_25 cy tE a rw (sa (si (si (si (si S 24 1) 19 p0) 20 p1) 21 7) 13 (fil 1024 0 (ar (si (si (si (si S 24 1) 19 p0) 20 p1) 21 7) 13)))) rfl in_X8 (by decide) wf_X8_74 rfl dX8_begin_108 ?_
    refine z_iconst (v := 0) b dX8_begin_111 (by decide) ?_
    refine z_iconst (v := 0) b dX8_begin_112 (by decide) ?_
    refine z_calll b (z_runV (q0 := 14) (As := [.int 0, .int 0]) (st := [.ref (a 25)]) b (c_X9_packed (sa (si (si (si (si S 24 1) 19 p0) 20 p1) 21 7) 13 (fil 1024 0 (ar (si (si (si (si S 24 1) 19 p0) 20 p1) 21 7) 13))) h_a_4_50 h_a_4_40 h_a_4_41 h_a_4_42 h_a_4_0 h_a_4_11 h_a_4_21 h_a_4_31 h_a_4_12 h_a_4_22 h_a_4_32 h_a_4_1 h_a_4_13 h_a_4_23 h_a_4_33 h_a_4_15 h_a_4_25 h_a_4_35 h_a_4_2 h_a_4_16 h_a_4_26 h_a_4_36 h_a_4_17 h_a_4_27 h_a_4_37) cf_X9_packed (cw_14 cy tE a rw (sa (si (si (si (si S 24 1) 19 p0) 20 p1) 21 7) 13 (fil 1024 0 (ar (si (si (si (si S 24 1) 19 p0) 20 p1) 21 7) 13)))) rfl wm_X8_86 wi_X9_packed ws_X9_packed dX8_begin_113 rfl (Nat.le_of_ble_eq_true rfl) ⟨by decide, by decide, by decide, by decide⟩) (fun r11705 u11706 h11704 => ?_)
    obtain ⟨rfl, rfl⟩ := h11704
    refine z_iconst (v := (-1)) b dX8_begin_116 (by decide) ?_
    refine z_iconst (v := (-1)) b dX8_begin_117 (by decide) ?_
    refine z_callv b (z_runV (q0 := 25) (As := [.long 4128768, .int (-1), .int (-1)]) (st := []) b (c_X8_meet (sa (si (si (si (si S 24 1) 19 p0) 20 p1) 21 7) 13 (fil 1024 0 (ar (si (si (si (si S 24 1) 19 p0) 20 p1) 21 7) 13))) rfl h_i_25 h_a_10_0) cf_X8_meet (cw_25 cy tE a rw (sa (si (si (si (si S 24 1) 19 p0) 20 p1) 21 7) 13 (fil 1024 0 (ar (si (si (si (si S 24 1) 19 p0) 20 p1) 21 7) 13)))) rfl wm_X8_90 wi_X8_meet ws_X8_meet dX8_begin_118 rfl (Nat.le_of_ble_eq_true rfl) ⟨by decide, by decide, by decide, by decide⟩) (fun u11709 h11707 => ?_)
    obtain rfl := h11707
    exact z_vret (u := (su (si (su (su (sv (sa (si (si (si (si S 24 1) 19 p0) 20 p1) 21 7) 13 (fil 1024 0 (ar (si (si (si (si S 24 1) 19 p0) 20 p1) 21 7) 13))) 2 0 4128768) 11 0 (-1)) 12 0 (-1)) 25 1) 13 978 1)) b rfl dX8_begin_121 rfl rfl (by decide) (by decide)
  · exfalso; omega

set_option maxHeartbeats 4000000 in
set_option maxRecDepth 100000 in
theorem c_X8_grow_2 {l : Launch} {D : va_G} {cy : Nat → ClassId} {T0 tB tE : Nat} {a : Nat → Nat} {rw : Nat → Option Nat} (S : GS)  (h_i_26 : fi S 26 = 0) (h_i_23 : fi S 23 = 0) (h_i_25 : fi S 25 = 1) (h_a_10_0 : ar S 10 0 = 0) (h_A_2_0 : al S 2 0 = 4128768) (h_a_9_50 : ar S 9 50 = 0) (h_a_9_40 : ar S 9 40 = 3) (h_a_9_41 : ar S 9 41 = 3) (h_a_9_42 : ar S 9 42 = 3) (h_a_9_0 : ar S 9 0 = 0) (h_a_9_11 : ar S 9 11 = 0) (h_a_9_21 : ar S 9 21 = 0) (h_a_9_31 : ar S 9 31 = 0) (h_a_9_12 : ar S 9 12 = 0) (h_a_9_22 : ar S 9 22 = 0) (h_a_9_32 : ar S 9 32 = 0) (h_a_9_1 : ar S 9 1 = 0) (h_a_9_13 : ar S 9 13 = 0) (h_a_9_23 : ar S 9 23 = 0) (h_a_9_33 : ar S 9 33 = 0) (h_a_9_15 : ar S 9 15 = 0) (h_a_9_25 : ar S 9 25 = 0) (h_a_9_35 : ar S 9 35 = 0) (h_a_9_2 : ar S 9 2 = 0) (h_a_9_16 : ar S 9 16 = 0) (h_a_9_26 : ar S 9 26 = 0) (h_a_9_36 : ar S 9 36 = 0) (h_a_9_17 : ar S 9 17 = 0) (h_a_9_27 : ar S 9 27 = 0) (h_a_9_37 : ar S 9 37 = 0) (h_i_18 : fi S 18 = 0) : Ct l D cy T0 tB tE yX8_grow cX8_grow 2 (some .boolean) 2 47 0 0 (cw cy tE a rw S) [.ref (a 25)] (QI D (U := GS) (fun r u => (((0 < ((fi S 20) : Int32).toInt)) ∧ 1 = r ∧ si S 23 1 = u) ∨ (((((fi S 20) : Int32).toInt ≤ 0)) ∧ 0 = r ∧ S = u)) (cw cy tE a rw)) := by
  refine Ct.ofZ RX8 "grow" [(0, .ref (a 25))] rfl rfl rfl rfl (Nat.le_of_ble_eq_true rfl) ?_
  intro p e R s m args below meth c A b
  refine z_aload_n b dX8_grow_0 rfl rfl ?_
  refine z_get (q0 := 25) (k9 := 18) (v := .int (fi S 26)) b (cw_25 cy tE a rw S) rfl in_X8 (by decide) wf_X8_67 rfl dX8_grow_1 ?_
  refine z_eqi h_i_26 ?_
  refine z_if_ne_f (tgt := 34) b dX8_grow_4 (by decide) (by decide) ?_
  refine z_aload_n b dX8_grow_7 rfl rfl ?_
  refine z_get (q0 := 25) (k9 := 15) (v := .int (fi S 23)) b (cw_25 cy tE a rw S) rfl in_X8 (by decide) wf_X8_57 rfl dX8_grow_8 ?_
  refine z_eqi h_i_23 ?_
  refine z_aload_n b dX8_grow_11 rfl rfl ?_
  refine z_get (q0 := 25) (k9 := 17) (v := .int (fi S 25)) b (cw_25 cy tE a rw S) rfl in_X8 (by decide) wf_X8_64 rfl dX8_grow_12 ?_
  refine z_eqi h_i_25 ?_
  refine z_icmp_ge_f (tgt := 34) b dX8_grow_15 (by decide) (by decide) ?_
  refine z_aload_n b dX8_grow_18 rfl rfl ?_
  refine z_get (q0 := 25) (k9 := 4) (v := .ref (a 29)) b (cw_25 cy tE a rw S) rfl in_X8 (by decide) wf_X8_22 rfl dX8_grow_19 ?_
  refine z_aload_n b dX8_grow_22 rfl rfl ?_
  refine z_get (q0 := 25) (k9 := 15) (v := .int (fi S 23)) b (cw_25 cy tE a rw S) rfl in_X8 (by decide) wf_X8_57 rfl dX8_grow_23 ?_
  refine z_eqi h_i_23 ?_
  refine y_iald (q0 := 29) (j := 0) (v := (ar S 10 0)) b (cw_29 cy tE a rw S) (by decide) rfl dX8_grow_26 ?_
  refine z_eqi h_a_10_0 ?_
  refine z_aload_n b dX8_grow_27 rfl rfl ?_
  refine z_get (q0 := 25) (k9 := 12) (v := .int (fi S 20)) b (cw_25 cy tE a rw S) rfl in_X8 (by decide) wf_X8_48 rfl dX8_grow_28 ?_
  refine y_icmp_lt (tgt := 36) (xl := 0) (yl := ((fi S 20) : Int32).toInt) b (by decide) rfl dX8_grow_31 (by decide) (fun c11713 => ?_) (fun c11713 => ?_)
  · refine z_aload_n b dX8_grow_36 rfl rfl ?_
    refine z_get (q0 := 25) (k9 := 2) (v := .ref (a 26)) b (cw_25 cy tE a rw S) rfl in_X8 (by decide) wf_X8_12 rfl dX8_grow_37 ?_
    refine z_aload_n b dX8_grow_40 rfl rfl ?_
    refine z_get (q0 := 25) (k9 := 3) (v := .ref (a 28)) b (cw_25 cy tE a rw S) rfl in_X8 (by decide) wf_X8_18 rfl dX8_grow_41 ?_
    refine z_aload_n b dX8_grow_44 rfl rfl ?_
    refine z_get (q0 := 25) (k9 := 15) (v := .int (fi S 23)) b (cw_25 cy tE a rw S) rfl in_X8 (by decide) wf_X8_57 rfl dX8_grow_45 ?_
    refine z_eqi h_i_23 ?_
    refine y_lald (q0 := 28) (j := 0) (v := (al S 2 0)) b (cw_28 cy tE a rw S) (by decide) rfl dX8_grow_48 ?_
    refine z_eql h_A_2_0 ?_
    refine z_callv b (z_runV (q0 := 26) (As := [.long 4128768]) (st := []) b (c_X9_unpack S h_a_9_50 h_a_9_40 h_a_9_41 h_a_9_42 h_a_9_0 h_a_9_11 h_a_9_21 h_a_9_31 h_a_9_12 h_a_9_22 h_a_9_32 h_a_9_1 h_a_9_13 h_a_9_23 h_a_9_33 h_a_9_15 h_a_9_25 h_a_9_35 h_a_9_2 h_a_9_16 h_a_9_26 h_a_9_36 h_a_9_17 h_a_9_27 h_a_9_37) cf_X9_unpack (cw_26 cy tE a rw S) rfl wm_X8_122 wi_X9_unpack ws_X9_unpack dX8_grow_49 rfl (Nat.le_of_ble_eq_true rfl) ⟨by decide, by decide, by decide, by decide⟩) (fun u11716 h11714 => ?_)
    obtain rfl := h11714
    refine z_iconst (v := 0) b dX8_grow_52 (by decide) ?_
    refine z_istore_n (lv' := [(1, .int 0), (0, .ref (a 25))]) b dX8_grow_53 rfl (by decide) rfl ?_
    refine z_iload_n b dX8_grow_54 rfl rfl ?_
    refine z_aload_n b dX8_grow_55 rfl rfl ?_
    refine z_get (q0 := 25) (k9 := 10) (v := .int (fi S 18)) b (cw_25 cy tE a rw S) rfl in_X8 (by decide) wf_X8_41 rfl dX8_grow_56 ?_
    refine z_eqi h_i_18 ?_
    refine z_icmp_ge_t (tgt := 130) b dX8_grow_59 (by decide) (by decide) ?_
    refine z_aload_n b dX8_grow_130 rfl rfl ?_
    refine z_dup b dX8_grow_131 rfl ?_
    refine z_get (q0 := 25) (k9 := 15) (v := .int (fi S 23)) b (cw_25 cy tE a rw S) rfl in_X8 (by decide) wf_X8_57 rfl dX8_grow_132 ?_
    refine z_eqi h_i_23 ?_
    refine z_iconst (v := 1) b dX8_grow_135 (by decide) ?_
    refine z_iadd (v := 1) b dX8_grow_136 (by decide) ?_
    refine z_put (q0 := 25) (k9 := 15) tyX8 b (cw_25 cy tE a rw S) rfl in_X8 tyX8_ok nmX8 (by decide) wf_X8_57 rfl rfl rfl rfl (Nat.le_of_ble_eq_true rfl) dX8_grow_137 (cwp_25_15 cy tE a rw S 1) ?_
    refine z_iconst (v := 1) b dX8_grow_140 (by decide) ?_
    exact z_zret (u := (si S 23 1)) b rfl (by decide) dX8_grow_141 (Or.inl ⟨c11713, rfl, rfl⟩) rfl (by decide) (by decide)
  · refine z_iconst (v := 0) b dX8_grow_34 (by decide) ?_
    exact z_zret (u := S) b rfl (by decide) dX8_grow_35 (Or.inr ⟨c11713, rfl, rfl⟩) rfl (by decide) (by decide)

set_option maxHeartbeats 4000000 in
set_option maxRecDepth 100000 in
theorem c_X8_grow_3 {l : Launch} {D : va_G} {cy : Nat → ClassId} {T0 tB tE : Nat} {a : Nat → Nat} {rw : Nat → Option Nat} (S : GS)  (h_i_26 : fi S 26 = 0) (h_i_23 : fi S 23 = 1) (h_i_25 : fi S 25 = 1) : Ct l D cy T0 tB tE yX8_grow cX8_grow 2 (some .boolean) 0 0 0 0 (cw cy tE a rw S) [.ref (a 25)] (QI D (U := GS) (fun r u => 0 = r ∧ S = u) (cw cy tE a rw)) := by
  refine Ct.ofZ RX8 "grow" [(0, .ref (a 25))] rfl rfl rfl rfl (Nat.le_of_ble_eq_true rfl) ?_
  intro p e R s m args below meth c A b
  refine z_aload_n b dX8_grow_0 rfl rfl ?_
  refine z_get (q0 := 25) (k9 := 18) (v := .int (fi S 26)) b (cw_25 cy tE a rw S) rfl in_X8 (by decide) wf_X8_67 rfl dX8_grow_1 ?_
  refine z_eqi h_i_26 ?_
  refine z_if_ne_f (tgt := 34) b dX8_grow_4 (by decide) (by decide) ?_
  refine z_aload_n b dX8_grow_7 rfl rfl ?_
  refine z_get (q0 := 25) (k9 := 15) (v := .int (fi S 23)) b (cw_25 cy tE a rw S) rfl in_X8 (by decide) wf_X8_57 rfl dX8_grow_8 ?_
  refine z_eqi h_i_23 ?_
  refine z_aload_n b dX8_grow_11 rfl rfl ?_
  refine z_get (q0 := 25) (k9 := 17) (v := .int (fi S 25)) b (cw_25 cy tE a rw S) rfl in_X8 (by decide) wf_X8_64 rfl dX8_grow_12 ?_
  refine z_eqi h_i_25 ?_
  refine z_icmp_ge_t (tgt := 34) b dX8_grow_15 (by decide) (by decide) ?_
  refine z_iconst (v := 0) b dX8_grow_34 (by decide) ?_
  exact z_zret (u := S) b rfl (by decide) dX8_grow_35 ⟨rfl, rfl⟩ rfl (by decide) (by decide)

set_option maxHeartbeats 4000000 in
set_option maxRecDepth 100000 in
theorem c_X8_finish_2 {l : Launch} {D : va_G} {cy : Nat → ClassId} {T0 tB tE : Nat} {a : Nat → Nat} {rw : Nat → Option Nat} (S : GS)  (h_i_26 : fi S 26 = 0) (h_i_23 : fi S 23 = 0) (h_i_25 : fi S 25 = 1) (h_a_10_0 : ar S 10 0 = 0) (h_A_2_0 : al S 2 0 = 4128768) (h_a_9_50 : ar S 9 50 = 0) (h_a_9_40 : ar S 9 40 = 3) (h_a_9_41 : ar S 9 41 = 3) (h_a_9_42 : ar S 9 42 = 3) (h_a_9_0 : ar S 9 0 = 0) (h_a_9_11 : ar S 9 11 = 0) (h_a_9_21 : ar S 9 21 = 0) (h_a_9_31 : ar S 9 31 = 0) (h_a_9_12 : ar S 9 12 = 0) (h_a_9_22 : ar S 9 22 = 0) (h_a_9_32 : ar S 9 32 = 0) (h_a_9_1 : ar S 9 1 = 0) (h_a_9_13 : ar S 9 13 = 0) (h_a_9_23 : ar S 9 23 = 0) (h_a_9_33 : ar S 9 33 = 0) (h_a_9_15 : ar S 9 15 = 0) (h_a_9_25 : ar S 9 25 = 0) (h_a_9_35 : ar S 9 35 = 0) (h_a_9_2 : ar S 9 2 = 0) (h_a_9_16 : ar S 9 16 = 0) (h_a_9_26 : ar S 9 26 = 0) (h_a_9_36 : ar S 9 36 = 0) (h_a_9_17 : ar S 9 17 = 0) (h_a_9_27 : ar S 9 27 = 0) (h_a_9_37 : ar S 9 37 = 0) (h_i_18 : fi S 18 = 0) : Ct l D cy T0 tB tE yX8_finish cX8_finish 3 none 3 68 0 0 (cw cy tE a rw S) [.ref (a 25)] (QV D (U := GS) (fun u => ((((0 < ((fi S 20) : Int32).toInt))) ∧ (si S 23 1) = u) ∨ ((((((fi S 20) : Int32).toInt ≤ 0))) ∧ S = u)) (cw cy tE a rw)) := by
  refine Ct.ofZ RX8 "finish" [(0, .ref (a 25))] rfl rfl rfl rfl (Nat.le_of_ble_eq_true rfl) ?_
  intro p e R s m args below meth c A b
  refine z_iconst (v := 1) b dX8_finish_0 (by decide) ?_
  refine z_istore_n (lv' := [(1, .int 1), (0, .ref (a 25))]) b dX8_finish_1 rfl (by decide) rfl ?_
  refine z_iconst (v := 0) b dX8_finish_2 (by decide) ?_
  refine z_istore_n (lv' := [(2, .int 0), (1, .int 1), (0, .ref (a 25))]) b dX8_finish_3 rfl (by decide) rfl ?_
  refine z_iload_n b dX8_finish_4 rfl rfl ?_
  refine z_sipush (v := 400) b dX8_finish_5 (by decide) ?_
  refine z_icmp_gt_f (tgt := 26) b dX8_finish_8 (by decide) (by decide) ?_
  refine z_iload_n b dX8_finish_11 rfl rfl ?_
  refine z_if_eq_f (tgt := 26) b dX8_finish_12 (by decide) (by decide) ?_
  refine z_aload_n b dX8_finish_15 rfl rfl ?_
  refine z_calli b (z_runV (q0 := 25) (As := []) (st := []) b (c_X8_grow_2 S h_i_26 h_i_23 h_i_25 h_a_10_0 h_A_2_0 h_a_9_50 h_a_9_40 h_a_9_41 h_a_9_42 h_a_9_0 h_a_9_11 h_a_9_21 h_a_9_31 h_a_9_12 h_a_9_22 h_a_9_32 h_a_9_1 h_a_9_13 h_a_9_23 h_a_9_33 h_a_9_15 h_a_9_25 h_a_9_35 h_a_9_2 h_a_9_16 h_a_9_26 h_a_9_36 h_a_9_17 h_a_9_27 h_a_9_37 h_i_18) cf_X8_grow (cw_25 cy tE a rw S) rfl wm_X8_133 wi_X8_grow ws_X8_grow dX8_finish_16 rfl (Nat.le_of_ble_eq_true rfl) ⟨by decide, by decide, by decide, by decide⟩) (fun r11718 u11719 h11717 => ?_)
  rcases h11717 with ⟨c11720, rfl, rfl⟩ | ⟨c11721, rfl, rfl⟩
  · refine z_istore_n (lv' := [(1, .int 1), (2, .int 0), (0, .ref (a 25))]) b dX8_finish_19 rfl (by decide) rfl ?_
    refine z_iinc (k9 := 1) (v := 1) (lv' := [(2, .int 1), (1, .int 1), (0, .ref (a 25))]) b dX8_finish_20 rfl (by decide) (by decide) rfl ?_
    refine z_goto (tgt := 4) b dX8_finish_23 (by decide) ?_
    refine z_iload_n b dX8_finish_4 rfl rfl ?_
    refine z_sipush (v := 400) b dX8_finish_5 (by decide) ?_
    refine z_icmp_gt_f (tgt := 26) b dX8_finish_8 (by decide) (by decide) ?_
    refine z_iload_n b dX8_finish_11 rfl rfl ?_
    refine z_if_eq_f (tgt := 26) b dX8_finish_12 (by decide) (by decide) ?_
    refine z_aload_n b dX8_finish_15 rfl rfl ?_
    refine z_calli b (z_runV (q0 := 25) (As := []) (st := []) b (c_X8_grow_3 (si S 23 1) h_i_26 rfl h_i_25) cf_X8_grow (cw_25 cy tE a rw (si S 23 1)) rfl wm_X8_133 wi_X8_grow ws_X8_grow dX8_finish_16 rfl (Nat.le_of_ble_eq_true rfl) ⟨by decide, by decide, by decide, by decide⟩) (fun r11723 u11724 h11722 => ?_)
    obtain ⟨rfl, rfl⟩ := h11722
    refine z_istore_n (lv' := [(1, .int 0), (2, .int 1), (0, .ref (a 25))]) b dX8_finish_19 rfl (by decide) rfl ?_
    refine z_iinc (k9 := 1) (v := 2) (lv' := [(2, .int 2), (1, .int 0), (0, .ref (a 25))]) b dX8_finish_20 rfl (by decide) (by decide) rfl ?_
    refine z_goto (tgt := 4) b dX8_finish_23 (by decide) ?_
    refine z_iload_n b dX8_finish_4 rfl rfl ?_
    refine z_sipush (v := 400) b dX8_finish_5 (by decide) ?_
    refine z_icmp_gt_f (tgt := 26) b dX8_finish_8 (by decide) (by decide) ?_
    refine z_iload_n b dX8_finish_11 rfl rfl ?_
    refine z_if_eq_t (tgt := 26) b dX8_finish_12 (by decide) (by decide) ?_
    exact z_vret (u := (si S 23 1)) b rfl dX8_finish_26 (Or.inl ⟨c11720, rfl⟩) rfl (by decide) (by decide)
  · refine z_istore_n (lv' := [(1, .int 0), (2, .int 0), (0, .ref (a 25))]) b dX8_finish_19 rfl (by decide) rfl ?_
    refine z_iinc (k9 := 1) (v := 1) (lv' := [(2, .int 1), (1, .int 0), (0, .ref (a 25))]) b dX8_finish_20 rfl (by decide) (by decide) rfl ?_
    refine z_goto (tgt := 4) b dX8_finish_23 (by decide) ?_
    refine z_iload_n b dX8_finish_4 rfl rfl ?_
    refine z_sipush (v := 400) b dX8_finish_5 (by decide) ?_
    refine z_icmp_gt_f (tgt := 26) b dX8_finish_8 (by decide) (by decide) ?_
    refine z_iload_n b dX8_finish_11 rfl rfl ?_
    refine z_if_eq_t (tgt := 26) b dX8_finish_12 (by decide) (by decide) ?_
    exact z_vret (u := S) b rfl dX8_finish_26 (Or.inr ⟨c11721, rfl⟩) rfl (by decide) (by decide)

set_option maxHeartbeats 4000000 in
set_option maxRecDepth 100000 in
theorem c_X11_met_9 {l : Launch} {D : va_G} {cy : Nat → ClassId} {T0 tB tE : Nat} {a : Nat → Nat} {rw : Nat → Option Nat} (S : GS) (p0 : Int32) (p1 : Int32) (h_i_19 : fi S 19 = 0) (h_i_24 : fi S 24 = 0) (h_i_22 : fi S 22 = 0) (h_i_18 : fi S 18 = 0) (h_i_25 : fi S 25 = 0) (h_i_23 : fi S 23 = 0) (h_i_26 : fi S 26 = 0) (h_a_4_50 : ar S 4 50 = 0) (h_a_4_40 : ar S 4 40 = 3) (h_a_4_41 : ar S 4 41 = 3) (h_a_4_42 : ar S 4 42 = 3) (h_a_4_0 : ar S 4 0 = 0) (h_a_4_11 : ar S 4 11 = 0) (h_a_4_21 : ar S 4 21 = 0) (h_a_4_31 : ar S 4 31 = 0) (h_a_4_12 : ar S 4 12 = 0) (h_a_4_22 : ar S 4 22 = 0) (h_a_4_32 : ar S 4 32 = 0) (h_a_4_1 : ar S 4 1 = 0) (h_a_4_13 : ar S 4 13 = 0) (h_a_4_23 : ar S 4 23 = 0) (h_a_4_33 : ar S 4 33 = 0) (h_a_4_15 : ar S 4 15 = 0) (h_a_4_25 : ar S 4 25 = 0) (h_a_4_35 : ar S 4 35 = 0) (h_a_4_2 : ar S 4 2 = 0) (h_a_4_16 : ar S 4 16 = 0) (h_a_4_26 : ar S 4 26 = 0) (h_a_4_36 : ar S 4 36 = 0) (h_a_4_17 : ar S 4 17 = 0) (h_a_4_27 : ar S 4 27 = 0) (h_a_4_37 : ar S 4 37 = 0) (h_a_10_0 : ar S 10 0 = 0) (h_a_9_50 : ar S 9 50 = 0) (h_a_9_40 : ar S 9 40 = 3) (h_a_9_41 : ar S 9 41 = 3) (h_a_9_42 : ar S 9 42 = 3) (h_a_9_0 : ar S 9 0 = 0) (h_a_9_11 : ar S 9 11 = 0) (h_a_9_21 : ar S 9 21 = 0) (h_a_9_31 : ar S 9 31 = 0) (h_a_9_12 : ar S 9 12 = 0) (h_a_9_22 : ar S 9 22 = 0) (h_a_9_32 : ar S 9 32 = 0) (h_a_9_1 : ar S 9 1 = 0) (h_a_9_13 : ar S 9 13 = 0) (h_a_9_23 : ar S 9 23 = 0) (h_a_9_33 : ar S 9 33 = 0) (h_a_9_15 : ar S 9 15 = 0) (h_a_9_25 : ar S 9 25 = 0) (h_a_9_35 : ar S 9 35 = 0) (h_a_9_2 : ar S 9 2 = 0) (h_a_9_16 : ar S 9 16 = 0) (h_a_9_26 : ar S 9 26 = 0) (h_a_9_36 : ar S 9 36 = 0) (h_a_9_17 : ar S 9 17 = 0) (h_a_9_27 : ar S 9 27 = 0) (h_a_9_37 : ar S 9 37 = 0) (hr_p0 : 1 ≤ p0.toInt ∧ p0.toInt ≤ 3) (hr_p1 : 1 ≤ p1.toInt ∧ p1.toInt ≤ 6) : Ct l D cy T0 tB tE yX11_met cX11_met 4 (some .int) 4 96 0 0 (cw cy tE a rw S) [.ref (a 0), .int p0, .int p1, .int 0] (QI D (U := GS) (fun r u => (((((0 < ((fi (su (si (su (su (sv (sa (si (si (si (si S 24 1) 19 p0) 20 p1) 21 7) 13 (fil 1024 0 (ar (si (si (si (si S 24 1) 19 p0) 20 p1) 21 7) 13))) 2 0 4128768) 11 0 (-1)) 12 0 (-1)) 25 1) 13 978 1) 20) : Int32).toInt)))) ∧ 1 = r ∧ (si (su (si (su (su (sv (sa (si (si (si (si S 24 1) 19 p0) 20 p1) 21 7) 13 (fil 1024 0 (ar (si (si (si (si S 24 1) 19 p0) 20 p1) 21 7) 13))) 2 0 4128768) 11 0 (-1)) 12 0 (-1)) 25 1) 13 978 1) 23 1) = u) ∨ (((((((fi (su (si (su (su (sv (sa (si (si (si (si S 24 1) 19 p0) 20 p1) 21 7) 13 (fil 1024 0 (ar (si (si (si (si S 24 1) 19 p0) 20 p1) 21 7) 13))) 2 0 4128768) 11 0 (-1)) 12 0 (-1)) 25 1) 13 978 1) 20) : Int32).toInt ≤ 0)))) ∧ 1 = r ∧ (su (si (su (su (sv (sa (si (si (si (si S 24 1) 19 p0) 20 p1) 21 7) 13 (fil 1024 0 (ar (si (si (si (si S 24 1) 19 p0) 20 p1) 21 7) 13))) 2 0 4128768) 11 0 (-1)) 12 0 (-1)) 25 1) 13 978 1) = u)) (cw cy tE a rw)) := by
  refine Ct.ofZ RX11 "met" [(0, .ref (a 0)), (1, .int p0), (2, .int p1), (3, .int 0)] rfl rfl rfl rfl (Nat.le_of_ble_eq_true rfl) ?_
  intro p e R s m args below meth c A b
  refine z_iload_n b dX11_met_0 rfl rfl ?_
  refine z_calli b (z_runS (As := [.int p0]) (st := []) b (c_X11_areLaws_3 S p0 ⟨by omega, by omega⟩) cf_X11_areLaws wm_X11_181 ws_X11_areLaws dX11_met_1 rfl (Nat.le_of_ble_eq_true rfl) ⟨by decide, by decide, by decide, by decide⟩) (fun r11691 u11692 h11690 => ?_)
  obtain ⟨rfl, rfl⟩ := h11690
  refine z_if_eq_f (tgt := 14) b dX11_met_4 (by decide) (by decide) ?_
  refine z_iload_n b dX11_met_7 rfl rfl ?_
  refine z_calli b (z_runS (As := [.int p1]) (st := []) b (c_X11_isDepth_3 S p1 ⟨by omega, by omega⟩) cf_X11_isDepth wm_X11_203 ws_X11_isDepth dX11_met_8 rfl (Nat.le_of_ble_eq_true rfl) ⟨by decide, by decide, by decide, by decide⟩) (fun r11696 u11697 h11695 => ?_)
  obtain ⟨rfl, rfl⟩ := h11695
  refine z_if_ne_t (tgt := 16) b dX11_met_11 (by decide) (by decide) ?_
  refine z_aload_n b dX11_met_16 rfl rfl ?_
  refine z_get (q0 := 0) (k9 := 6) (v := .ref (a 25)) b (cw_0 cy tE a rw S) rfl in_X11 (by decide) wf_X11_52 rfl dX11_met_17 ?_
  refine z_iload_n b dX11_met_20 rfl rfl ?_
  refine z_iload_n b dX11_met_21 rfl rfl ?_
  refine z_bipush (v := 7) b dX11_met_22 (by decide) ?_
  refine z_iconst (v := 0) b dX11_met_24 (by decide) ?_
  refine z_callv b (z_runV (q0 := 25) (As := [.int p0, .int p1, .int 7, .int 0]) (st := []) b (c_X8_begin_2 S p0 p1 h_i_19 h_i_24 h_i_22 h_i_18 h_i_25 h_i_23 h_i_26 h_a_4_50 h_a_4_40 h_a_4_41 h_a_4_42 h_a_4_0 h_a_4_11 h_a_4_21 h_a_4_31 h_a_4_12 h_a_4_22 h_a_4_32 h_a_4_1 h_a_4_13 h_a_4_23 h_a_4_33 h_a_4_15 h_a_4_25 h_a_4_35 h_a_4_2 h_a_4_16 h_a_4_26 h_a_4_36 h_a_4_17 h_a_4_27 h_a_4_37 h_a_10_0 ⟨by omega, by omega⟩ ⟨by omega, by omega⟩) cf_X8_begin (cw_25 cy tE a rw S) rfl wm_X11_206 wi_X8_begin ws_X8_begin dX11_met_25 rfl (Nat.le_of_ble_eq_true rfl) ⟨by decide, by decide, by decide, by decide⟩) (fun u11712 h11710 => ?_)
  obtain rfl := h11710
  refine z_aload_n b dX11_met_28 rfl rfl ?_
  refine z_get (q0 := 0) (k9 := 6) (v := .ref (a 25)) b (cw_0 cy tE a rw (su (si (su (su (sv (sa (si (si (si (si S 24 1) 19 p0) 20 p1) 21 7) 13 (fil 1024 0 (ar (si (si (si (si S 24 1) 19 p0) 20 p1) 21 7) 13))) 2 0 4128768) 11 0 (-1)) 12 0 (-1)) 25 1) 13 978 1)) rfl in_X11 (by decide) wf_X11_52 rfl dX11_met_29 ?_
  refine z_callv b (z_runV (q0 := 25) (As := []) (st := []) b (c_X8_finish_2 (su (si (su (su (sv (sa (si (si (si (si S 24 1) 19 p0) 20 p1) 21 7) 13 (fil 1024 0 (ar (si (si (si (si S 24 1) 19 p0) 20 p1) 21 7) 13))) 2 0 4128768) 11 0 (-1)) 12 0 (-1)) 25 1) 13 978 1) h_i_26 h_i_23 rfl h_a_10_0 rfl h_a_9_50 h_a_9_40 h_a_9_41 h_a_9_42 h_a_9_0 h_a_9_11 h_a_9_21 h_a_9_31 h_a_9_12 h_a_9_22 h_a_9_32 h_a_9_1 h_a_9_13 h_a_9_23 h_a_9_33 h_a_9_15 h_a_9_25 h_a_9_35 h_a_9_2 h_a_9_16 h_a_9_26 h_a_9_36 h_a_9_17 h_a_9_27 h_a_9_37 h_i_18) cf_X8_finish (cw_25 cy tE a rw (su (si (su (su (sv (sa (si (si (si (si S 24 1) 19 p0) 20 p1) 21 7) 13 (fil 1024 0 (ar (si (si (si (si S 24 1) 19 p0) 20 p1) 21 7) 13))) 2 0 4128768) 11 0 (-1)) 12 0 (-1)) 25 1) 13 978 1)) rfl wm_X11_232 wi_X8_finish ws_X8_finish dX11_met_32 rfl (Nat.le_of_ble_eq_true rfl) ⟨by decide, by decide, by decide, by decide⟩) (fun u11727 h11725 => ?_)
  rcases h11725 with ⟨c11728, rfl⟩ | ⟨c11729, rfl⟩
  · refine z_aload_n b dX11_met_35 rfl rfl ?_
    refine z_get (q0 := 0) (k9 := 6) (v := .ref (a 25)) b (cw_0 cy tE a rw (si (su (si (su (su (sv (sa (si (si (si (si S 24 1) 19 p0) 20 p1) 21 7) 13 (fil 1024 0 (ar (si (si (si (si S 24 1) 19 p0) 20 p1) 21 7) 13))) 2 0 4128768) 11 0 (-1)) 12 0 (-1)) 25 1) 13 978 1) 23 1)) rfl in_X11 (by decide) wf_X11_52 rfl dX11_met_36 ?_
    refine z_get (q0 := 25) (k9 := 18) (v := .int (fi (si (su (si (su (su (sv (sa (si (si (si (si S 24 1) 19 p0) 20 p1) 21 7) 13 (fil 1024 0 (ar (si (si (si (si S 24 1) 19 p0) 20 p1) 21 7) 13))) 2 0 4128768) 11 0 (-1)) 12 0 (-1)) 25 1) 13 978 1) 23 1) 26)) b (cw_25 cy tE a rw (si (su (si (su (su (sv (sa (si (si (si (si S 24 1) 19 p0) 20 p1) 21 7) 13 (fil 1024 0 (ar (si (si (si (si S 24 1) 19 p0) 20 p1) 21 7) 13))) 2 0 4128768) 11 0 (-1)) 12 0 (-1)) 25 1) 13 978 1) 23 1)) rfl in_X8 (by decide) wf_X11_214 rfl dX11_met_39 ?_
    refine z_eqi h_i_26 ?_
    refine z_if_eq_t (tgt := 48) b dX11_met_42 (by decide) (by decide) ?_
    refine z_iload_n b dX11_met_48 rfl rfl ?_
    refine z_if_eq_t (tgt := 62) b dX11_met_49 (by decide) (by decide) ?_
    refine z_aload_n b dX11_met_62 rfl rfl ?_
    refine z_get (q0 := 0) (k9 := 6) (v := .ref (a 25)) b (cw_0 cy tE a rw (si (su (si (su (su (sv (sa (si (si (si (si S 24 1) 19 p0) 20 p1) 21 7) 13 (fil 1024 0 (ar (si (si (si (si S 24 1) 19 p0) 20 p1) 21 7) 13))) 2 0 4128768) 11 0 (-1)) 12 0 (-1)) 25 1) 13 978 1) 23 1)) rfl in_X11 (by decide) wf_X11_52 rfl dX11_met_63 ?_
    refine z_get (q0 := 25) (k9 := 17) (v := .int 1) b (cw_25 cy tE a rw (si (su (si (su (su (sv (sa (si (si (si (si S 24 1) 19 p0) 20 p1) 21 7) 13 (fil 1024 0 (ar (si (si (si (si S 24 1) 19 p0) 20 p1) 21 7) 13))) 2 0 4128768) 11 0 (-1)) 12 0 (-1)) 25 1) 13 978 1) 23 1)) rfl in_X8 (by decide) wf_X11_213 rfl dX11_met_66 ?_
    exact z_iret (u := (si (su (si (su (su (sv (sa (si (si (si (si S 24 1) 19 p0) 20 p1) 21 7) 13 (fil 1024 0 (ar (si (si (si (si S 24 1) 19 p0) 20 p1) 21 7) 13))) 2 0 4128768) 11 0 (-1)) 12 0 (-1)) 25 1) 13 978 1) 23 1)) b rfl dX11_met_69 (Or.inl ⟨c11728, rfl, rfl⟩) rfl (by decide) (by decide)
  · refine z_aload_n b dX11_met_35 rfl rfl ?_
    refine z_get (q0 := 0) (k9 := 6) (v := .ref (a 25)) b (cw_0 cy tE a rw (su (si (su (su (sv (sa (si (si (si (si S 24 1) 19 p0) 20 p1) 21 7) 13 (fil 1024 0 (ar (si (si (si (si S 24 1) 19 p0) 20 p1) 21 7) 13))) 2 0 4128768) 11 0 (-1)) 12 0 (-1)) 25 1) 13 978 1)) rfl in_X11 (by decide) wf_X11_52 rfl dX11_met_36 ?_
    refine z_get (q0 := 25) (k9 := 18) (v := .int (fi (su (si (su (su (sv (sa (si (si (si (si S 24 1) 19 p0) 20 p1) 21 7) 13 (fil 1024 0 (ar (si (si (si (si S 24 1) 19 p0) 20 p1) 21 7) 13))) 2 0 4128768) 11 0 (-1)) 12 0 (-1)) 25 1) 13 978 1) 26)) b (cw_25 cy tE a rw (su (si (su (su (sv (sa (si (si (si (si S 24 1) 19 p0) 20 p1) 21 7) 13 (fil 1024 0 (ar (si (si (si (si S 24 1) 19 p0) 20 p1) 21 7) 13))) 2 0 4128768) 11 0 (-1)) 12 0 (-1)) 25 1) 13 978 1)) rfl in_X8 (by decide) wf_X11_214 rfl dX11_met_39 ?_
    refine z_eqi h_i_26 ?_
    refine z_if_eq_t (tgt := 48) b dX11_met_42 (by decide) (by decide) ?_
    refine z_iload_n b dX11_met_48 rfl rfl ?_
    refine z_if_eq_t (tgt := 62) b dX11_met_49 (by decide) (by decide) ?_
    refine z_aload_n b dX11_met_62 rfl rfl ?_
    refine z_get (q0 := 0) (k9 := 6) (v := .ref (a 25)) b (cw_0 cy tE a rw (su (si (su (su (sv (sa (si (si (si (si S 24 1) 19 p0) 20 p1) 21 7) 13 (fil 1024 0 (ar (si (si (si (si S 24 1) 19 p0) 20 p1) 21 7) 13))) 2 0 4128768) 11 0 (-1)) 12 0 (-1)) 25 1) 13 978 1)) rfl in_X11 (by decide) wf_X11_52 rfl dX11_met_63 ?_
    refine z_get (q0 := 25) (k9 := 17) (v := .int 1) b (cw_25 cy tE a rw (su (si (su (su (sv (sa (si (si (si (si S 24 1) 19 p0) 20 p1) 21 7) 13 (fil 1024 0 (ar (si (si (si (si S 24 1) 19 p0) 20 p1) 21 7) 13))) 2 0 4128768) 11 0 (-1)) 12 0 (-1)) 25 1) 13 978 1)) rfl in_X8 (by decide) wf_X11_213 rfl dX11_met_66 ?_
    exact z_iret (u := (su (si (su (su (sv (sa (si (si (si (si S 24 1) 19 p0) 20 p1) 21 7) 13 (fil 1024 0 (ar (si (si (si (si S 24 1) 19 p0) 20 p1) 21 7) 13))) 2 0 4128768) 11 0 (-1)) 12 0 (-1)) 25 1) 13 978 1)) b rfl dX11_met_69 (Or.inr ⟨c11729, rfl, rfl⟩) rfl (by decide) (by decide)

set_option maxHeartbeats 4000000 in
set_option maxRecDepth 100000 in
theorem c_X12_isIn_57 {l : Launch} {D : va_G} {cy : Nat → ClassId} {T0 tB tE : Nat} {a : Nat → Nat} (S : GS) (p0 : Int32)  (hr_p0 : 1 ≤ p0.toInt ∧ p0.toInt ≤ 6) : Ct l D cy T0 tB tE yX12_isIn cX12_isIn 3 (some .boolean) 0 0 0 0 (mw cy a S) [.int p0, .int 0, .int 6] (QI D (U := GS) (fun r u => 1 = r ∧ S = u) (mw cy a)) := by
  refine Ct.ofZ RX12 "isIn" [(0, .int p0), (1, .int 0), (2, .int 6)] rfl rfl rfl rfl (Nat.le_of_ble_eq_true rfl) ?_
  intro p e R s m args below meth c A b
  refine z_iload_n b dX12_isIn_0 rfl rfl ?_
  refine z_iload_n b dX12_isIn_1 rfl rfl ?_
  refine y_icmp_lt (tgt := 14) (xl := p0.toInt) (yl := 0) b rfl (by decide) dX12_isIn_2 (by decide) (fun c11733 => ?_) (fun c11733 => ?_)
  · exfalso; omega
  · refine z_iload_n b dX12_isIn_5 rfl rfl ?_
    refine z_iload_n b dX12_isIn_6 rfl rfl ?_
    refine y_icmp_gt (tgt := 14) (xl := p0.toInt) (yl := 6) b rfl (by decide) dX12_isIn_7 (by decide) (fun c11734 => ?_) (fun c11734 => ?_)
    · exfalso; omega
    · refine z_iconst (v := 1) b dX12_isIn_10 (by decide) ?_
      refine z_goto (tgt := 15) b dX12_isIn_11 (by decide) ?_
      exact z_zret (u := S) b rfl (by decide) dX12_isIn_15 ⟨rfl, rfl⟩ rfl (by decide) (by decide)

set_option maxHeartbeats 4000000 in
set_option maxRecDepth 100000 in
theorem c_X12_canSearch_5 {l : Launch} {D : va_G} {cy : Nat → ClassId} {T0 tB tE : Nat} {a : Nat → Nat} (S : GS) (p0 : Int32) (p1 : Int32)  (hr_p0 : 1 ≤ p0.toInt ∧ p0.toInt ≤ 3) (hr_p1 : 1 ≤ p1.toInt ∧ p1.toInt ≤ 6) : Ct l D cy T0 tB tE yX12_canSearch cX12_canSearch 3 (some .boolean) 1 22 0 0 (mw cy a S) [.ref (a 0), .int p0, .int p1] (QI D (U := GS) (fun r u => 1 = r ∧ S = u) (mw cy a)) := by
  refine Ct.ofZ RX12 "canSearch" [(0, .ref (a 0)), (1, .int p0), (2, .int p1)] rfl rfl rfl rfl (Nat.le_of_ble_eq_true rfl) ?_
  intro p e R s m args below meth c A b
  refine z_iload_n b dX12_canSearch_0 rfl rfl ?_
  refine z_iconst (v := 1) b dX12_canSearch_1 (by decide) ?_
  refine z_iconst (v := 3) b dX12_canSearch_2 (by decide) ?_
  refine z_calli b (z_runS (As := [.int p0, .int 1, .int 3]) (st := []) b (c_X12_isIn_51 S p0 ⟨by omega, by omega⟩) cf_X12_isIn wm_X12_1 ws_X12_isIn dX12_canSearch_3 rfl (Nat.le_of_ble_eq_true rfl) ⟨by decide, by decide, by decide, by decide⟩) (fun r11731 u11732 h11730 => ?_)
  obtain ⟨rfl, rfl⟩ := h11730
  refine z_if_eq_f (tgt := 23) b dX12_canSearch_6 (by decide) (by decide) ?_
  refine z_iload_n b dX12_canSearch_9 rfl rfl ?_
  refine z_iconst (v := 0) b dX12_canSearch_10 (by decide) ?_
  refine z_bipush (v := 6) b dX12_canSearch_11 (by decide) ?_
  refine z_calli b (z_runS (As := [.int p1, .int 0, .int 6]) (st := []) b (c_X12_isIn_57 S p1 ⟨by omega, by omega⟩) cf_X12_isIn wm_X12_1 ws_X12_isIn dX12_canSearch_13 rfl (Nat.le_of_ble_eq_true rfl) ⟨by decide, by decide, by decide, by decide⟩) (fun r11736 u11737 h11735 => ?_)
  obtain ⟨rfl, rfl⟩ := h11735
  refine z_if_eq_f (tgt := 23) b dX12_canSearch_16 (by decide) (by decide) ?_
  refine z_iconst (v := 1) b dX12_canSearch_19 (by decide) ?_
  refine z_goto (tgt := 24) b dX12_canSearch_20 (by decide) ?_
  exact z_zret (u := S) b rfl (by decide) dX12_canSearch_24 ⟨rfl, rfl⟩ rfl (by decide) (by decide)

set_option maxHeartbeats 4000000 in
set_option maxRecDepth 100000 in
theorem ch_X12_goesOn_347 {p : Program} {l : Launch} {e : Env} {R : Room} {s : State} {m : MethodId} {args : Array Value} {below : List Frame} {meth : Method} {c : Code} {D : va_G} {cy : Nat → ClassId} {T0 tB tE : Nat} {A : Nat → Prop} {Q : State → Prop} {a : Nat → Nat} (S : GS) (p0 : Int32) (h_a_7_0 : ar S 7 0 = 0) (h_i_22 : fi S 22 = (-1)) (h_i_23 : fi S 23 = 0) (b : Bz p R s m args meth c D cy T0 tB tE A 11 cX12_goesOn RX12 none "goesOn" 2 43 0 0) (k : Z p l e R s m args below meth c D A 11 Q 0 0 (mw cy a S) [(6, .int 320), (0, .ref (a 0)), (1, .int 0), (2, .int (-1)), (3, .int p0), (4, .int 7), (5, .int 0)] 30 [.int 64, .int 320]) : Z p l e R s m args below meth c D A 11 Q 0 0 (mw cy a S) [(0, .ref (a 0)), (1, .int 0), (2, .int (-1)), (3, .int p0), (4, .int 7), (5, .int 0)] 0 [] := by
  refine z_iconst (v := 0) b dX12_goesOn_0 (by decide) ?_
  refine z_istore (lv' := [(6, .int 0), (0, .ref (a 0)), (1, .int 0), (2, .int (-1)), (3, .int p0), (4, .int 7), (5, .int 0)]) b dX12_goesOn_1 (by decide) rfl ?_
  refine z_iload b dX12_goesOn_3 rfl ?_
  refine z_sipush (v := 768) b dX12_goesOn_5 (by decide) ?_
  refine z_icmp_ge_f (tgt := 199) b dX12_goesOn_8 (by decide) (by decide) ?_
  refine z_aload_n b dX12_goesOn_11 rfl rfl ?_
  refine z_get (q0 := 0) (k9 := 56) (v := .int (fi S 22)) b (mw_0 cy a S) rfl in_X12 (by decide) wf_X12_411 rfl dX12_goesOn_12 ?_
  refine z_eqi h_i_22 ?_
  refine z_iconst (v := (-1)) b dX12_goesOn_15 (by decide) ?_
  refine z_icmp_ne_f (tgt := 199) b dX12_goesOn_16 (by decide) (by decide) ?_
  refine z_aload_n b dX12_goesOn_19 rfl rfl ?_
  refine z_get (q0 := 0) (k9 := 57) (v := .int (fi S 23)) b (mw_0 cy a S) rfl in_X12 (by decide) wf_X12_408 rfl dX12_goesOn_20 ?_
  refine z_eqi h_i_23 ?_
  refine z_if_ne_f (tgt := 199) b dX12_goesOn_23 (by decide) (by decide) ?_
  refine z_iload b dX12_goesOn_26 rfl ?_
  refine z_bipush (v := 64) b dX12_goesOn_28 (by decide) ?_
  refine z_irem (v := 0) b dX12_goesOn_30 (by decide) (by decide) ?_
  refine z_if_ne_f (tgt := 52) b dX12_goesOn_31 (by decide) (by decide) ?_
  refine z_aload_n b dX12_goesOn_34 rfl rfl ?_
  refine z_iload b dX12_goesOn_35 rfl ?_
  refine z_bipush (v := 64) b dX12_goesOn_37 (by decide) ?_
  refine z_idiv (v := 0) b dX12_goesOn_39 (by decide) (by decide) ?_
  refine z_calli b (z_runV (q0 := 0) (As := [.int 0]) (st := []) b (c_X12_isAct_3 S h_a_7_0) cf_X12_isAct (mw_0 cy a S) rfl wm_X12_361 wi_X12_isAct ws_X12_isAct dX12_goesOn_40 rfl (Nat.le_of_ble_eq_true rfl) ⟨by decide, by decide, by decide, by decide⟩) (fun r11746 u11747 h11745 => ?_)
  obtain ⟨rfl, rfl⟩ := h11745
  refine z_if_ne_f (tgt := 52) b dX12_goesOn_43 (by decide) (by decide) ?_
  refine z_iinc (k9 := 0) (v := 63) (lv' := [(6, .int 63), (0, .ref (a 0)), (1, .int 0), (2, .int (-1)), (3, .int p0), (4, .int 7), (5, .int 0)]) b dX12_goesOn_46 rfl (by decide) (by decide) rfl ?_
  refine z_goto (tgt := 193) b dX12_goesOn_49 (by decide) ?_
  refine z_iinc (k9 := 0) (v := 64) (lv' := [(6, .int 64), (0, .ref (a 0)), (1, .int 0), (2, .int (-1)), (3, .int p0), (4, .int 7), (5, .int 0)]) b dX12_goesOn_193 rfl (by decide) (by decide) rfl ?_
  refine z_goto (tgt := 3) b dX12_goesOn_196 (by decide) ?_
  refine z_iload b dX12_goesOn_3 rfl ?_
  refine z_sipush (v := 768) b dX12_goesOn_5 (by decide) ?_
  refine z_icmp_ge_f (tgt := 199) b dX12_goesOn_8 (by decide) (by decide) ?_
  refine z_aload_n b dX12_goesOn_11 rfl rfl ?_
  refine z_get (q0 := 0) (k9 := 56) (v := .int (fi S 22)) b (mw_0 cy a S) rfl in_X12 (by decide) wf_X12_411 rfl dX12_goesOn_12 ?_
  refine z_eqi h_i_22 ?_
  refine z_iconst (v := (-1)) b dX12_goesOn_15 (by decide) ?_
  refine z_icmp_ne_f (tgt := 199) b dX12_goesOn_16 (by decide) (by decide) ?_
  refine z_aload_n b dX12_goesOn_19 rfl rfl ?_
  refine z_get (q0 := 0) (k9 := 57) (v := .int (fi S 23)) b (mw_0 cy a S) rfl in_X12 (by decide) wf_X12_408 rfl dX12_goesOn_20 ?_
  refine z_eqi h_i_23 ?_
  refine z_if_ne_f (tgt := 199) b dX12_goesOn_23 (by decide) (by decide) ?_
  refine z_iload b dX12_goesOn_26 rfl ?_
  refine z_bipush (v := 64) b dX12_goesOn_28 (by decide) ?_
  refine z_irem (v := 0) b dX12_goesOn_30 (by decide) (by decide) ?_
  refine z_if_ne_f (tgt := 52) b dX12_goesOn_31 (by decide) (by decide) ?_
  refine z_aload_n b dX12_goesOn_34 rfl rfl ?_
  refine z_iload b dX12_goesOn_35 rfl ?_
  refine z_bipush (v := 64) b dX12_goesOn_37 (by decide) ?_
  refine z_idiv (v := 1) b dX12_goesOn_39 (by decide) (by decide) ?_
  refine z_calli b (z_runV (q0 := 0) (As := [.int 1]) (st := []) b (c_X12_isAct_4 S h_a_7_0) cf_X12_isAct (mw_0 cy a S) rfl wm_X12_361 wi_X12_isAct ws_X12_isAct dX12_goesOn_40 rfl (Nat.le_of_ble_eq_true rfl) ⟨by decide, by decide, by decide, by decide⟩) (fun r11749 u11750 h11748 => ?_)
  obtain ⟨rfl, rfl⟩ := h11748
  refine z_if_ne_f (tgt := 52) b dX12_goesOn_43 (by decide) (by decide) ?_
  refine z_iinc (k9 := 0) (v := 127) (lv' := [(6, .int 127), (0, .ref (a 0)), (1, .int 0), (2, .int (-1)), (3, .int p0), (4, .int 7), (5, .int 0)]) b dX12_goesOn_46 rfl (by decide) (by decide) rfl ?_
  refine z_goto (tgt := 193) b dX12_goesOn_49 (by decide) ?_
  refine z_iinc (k9 := 0) (v := 128) (lv' := [(6, .int 128), (0, .ref (a 0)), (1, .int 0), (2, .int (-1)), (3, .int p0), (4, .int 7), (5, .int 0)]) b dX12_goesOn_193 rfl (by decide) (by decide) rfl ?_
  refine z_goto (tgt := 3) b dX12_goesOn_196 (by decide) ?_
  refine z_iload b dX12_goesOn_3 rfl ?_
  refine z_sipush (v := 768) b dX12_goesOn_5 (by decide) ?_
  refine z_icmp_ge_f (tgt := 199) b dX12_goesOn_8 (by decide) (by decide) ?_
  refine z_aload_n b dX12_goesOn_11 rfl rfl ?_
  refine z_get (q0 := 0) (k9 := 56) (v := .int (fi S 22)) b (mw_0 cy a S) rfl in_X12 (by decide) wf_X12_411 rfl dX12_goesOn_12 ?_
  refine z_eqi h_i_22 ?_
  refine z_iconst (v := (-1)) b dX12_goesOn_15 (by decide) ?_
  refine z_icmp_ne_f (tgt := 199) b dX12_goesOn_16 (by decide) (by decide) ?_
  refine z_aload_n b dX12_goesOn_19 rfl rfl ?_
  refine z_get (q0 := 0) (k9 := 57) (v := .int (fi S 23)) b (mw_0 cy a S) rfl in_X12 (by decide) wf_X12_408 rfl dX12_goesOn_20 ?_
  refine z_eqi h_i_23 ?_
  refine z_if_ne_f (tgt := 199) b dX12_goesOn_23 (by decide) (by decide) ?_
  refine z_iload b dX12_goesOn_26 rfl ?_
  refine z_bipush (v := 64) b dX12_goesOn_28 (by decide) ?_
  refine z_irem (v := 0) b dX12_goesOn_30 (by decide) (by decide) ?_
  refine z_if_ne_f (tgt := 52) b dX12_goesOn_31 (by decide) (by decide) ?_
  refine z_aload_n b dX12_goesOn_34 rfl rfl ?_
  refine z_iload b dX12_goesOn_35 rfl ?_
  refine z_bipush (v := 64) b dX12_goesOn_37 (by decide) ?_
  refine z_idiv (v := 2) b dX12_goesOn_39 (by decide) (by decide) ?_
  refine z_calli b (z_runV (q0 := 0) (As := [.int 2]) (st := []) b (c_X12_isAct_5 S h_a_7_0) cf_X12_isAct (mw_0 cy a S) rfl wm_X12_361 wi_X12_isAct ws_X12_isAct dX12_goesOn_40 rfl (Nat.le_of_ble_eq_true rfl) ⟨by decide, by decide, by decide, by decide⟩) (fun r11752 u11753 h11751 => ?_)
  obtain ⟨rfl, rfl⟩ := h11751
  refine z_if_ne_f (tgt := 52) b dX12_goesOn_43 (by decide) (by decide) ?_
  refine z_iinc (k9 := 0) (v := 191) (lv' := [(6, .int 191), (0, .ref (a 0)), (1, .int 0), (2, .int (-1)), (3, .int p0), (4, .int 7), (5, .int 0)]) b dX12_goesOn_46 rfl (by decide) (by decide) rfl ?_
  refine z_goto (tgt := 193) b dX12_goesOn_49 (by decide) ?_
  refine z_iinc (k9 := 0) (v := 192) (lv' := [(6, .int 192), (0, .ref (a 0)), (1, .int 0), (2, .int (-1)), (3, .int p0), (4, .int 7), (5, .int 0)]) b dX12_goesOn_193 rfl (by decide) (by decide) rfl ?_
  refine z_goto (tgt := 3) b dX12_goesOn_196 (by decide) ?_
  refine z_iload b dX12_goesOn_3 rfl ?_
  refine z_sipush (v := 768) b dX12_goesOn_5 (by decide) ?_
  refine z_icmp_ge_f (tgt := 199) b dX12_goesOn_8 (by decide) (by decide) ?_
  refine z_aload_n b dX12_goesOn_11 rfl rfl ?_
  refine z_get (q0 := 0) (k9 := 56) (v := .int (fi S 22)) b (mw_0 cy a S) rfl in_X12 (by decide) wf_X12_411 rfl dX12_goesOn_12 ?_
  refine z_eqi h_i_22 ?_
  refine z_iconst (v := (-1)) b dX12_goesOn_15 (by decide) ?_
  refine z_icmp_ne_f (tgt := 199) b dX12_goesOn_16 (by decide) (by decide) ?_
  refine z_aload_n b dX12_goesOn_19 rfl rfl ?_
  refine z_get (q0 := 0) (k9 := 57) (v := .int (fi S 23)) b (mw_0 cy a S) rfl in_X12 (by decide) wf_X12_408 rfl dX12_goesOn_20 ?_
  refine z_eqi h_i_23 ?_
  refine z_if_ne_f (tgt := 199) b dX12_goesOn_23 (by decide) (by decide) ?_
  refine z_iload b dX12_goesOn_26 rfl ?_
  refine z_bipush (v := 64) b dX12_goesOn_28 (by decide) ?_
  refine z_irem (v := 0) b dX12_goesOn_30 (by decide) (by decide) ?_
  refine z_if_ne_f (tgt := 52) b dX12_goesOn_31 (by decide) (by decide) ?_
  refine z_aload_n b dX12_goesOn_34 rfl rfl ?_
  refine z_iload b dX12_goesOn_35 rfl ?_
  refine z_bipush (v := 64) b dX12_goesOn_37 (by decide) ?_
  refine z_idiv (v := 3) b dX12_goesOn_39 (by decide) (by decide) ?_
  refine z_calli b (z_runV (q0 := 0) (As := [.int 3]) (st := []) b (c_X12_isAct_6 S h_a_7_0) cf_X12_isAct (mw_0 cy a S) rfl wm_X12_361 wi_X12_isAct ws_X12_isAct dX12_goesOn_40 rfl (Nat.le_of_ble_eq_true rfl) ⟨by decide, by decide, by decide, by decide⟩) (fun r11755 u11756 h11754 => ?_)
  obtain ⟨rfl, rfl⟩ := h11754
  refine z_if_ne_f (tgt := 52) b dX12_goesOn_43 (by decide) (by decide) ?_
  refine z_iinc (k9 := 0) (v := 255) (lv' := [(6, .int 255), (0, .ref (a 0)), (1, .int 0), (2, .int (-1)), (3, .int p0), (4, .int 7), (5, .int 0)]) b dX12_goesOn_46 rfl (by decide) (by decide) rfl ?_
  refine z_goto (tgt := 193) b dX12_goesOn_49 (by decide) ?_
  refine z_iinc (k9 := 0) (v := 256) (lv' := [(6, .int 256), (0, .ref (a 0)), (1, .int 0), (2, .int (-1)), (3, .int p0), (4, .int 7), (5, .int 0)]) b dX12_goesOn_193 rfl (by decide) (by decide) rfl ?_
  refine z_goto (tgt := 3) b dX12_goesOn_196 (by decide) ?_
  refine z_iload b dX12_goesOn_3 rfl ?_
  refine z_sipush (v := 768) b dX12_goesOn_5 (by decide) ?_
  refine z_icmp_ge_f (tgt := 199) b dX12_goesOn_8 (by decide) (by decide) ?_
  refine z_aload_n b dX12_goesOn_11 rfl rfl ?_
  refine z_get (q0 := 0) (k9 := 56) (v := .int (fi S 22)) b (mw_0 cy a S) rfl in_X12 (by decide) wf_X12_411 rfl dX12_goesOn_12 ?_
  refine z_eqi h_i_22 ?_
  refine z_iconst (v := (-1)) b dX12_goesOn_15 (by decide) ?_
  refine z_icmp_ne_f (tgt := 199) b dX12_goesOn_16 (by decide) (by decide) ?_
  refine z_aload_n b dX12_goesOn_19 rfl rfl ?_
  refine z_get (q0 := 0) (k9 := 57) (v := .int (fi S 23)) b (mw_0 cy a S) rfl in_X12 (by decide) wf_X12_408 rfl dX12_goesOn_20 ?_
  refine z_eqi h_i_23 ?_
  refine z_if_ne_f (tgt := 199) b dX12_goesOn_23 (by decide) (by decide) ?_
  refine z_iload b dX12_goesOn_26 rfl ?_
  refine z_bipush (v := 64) b dX12_goesOn_28 (by decide) ?_
  refine z_irem (v := 0) b dX12_goesOn_30 (by decide) (by decide) ?_
  refine z_if_ne_f (tgt := 52) b dX12_goesOn_31 (by decide) (by decide) ?_
  refine z_aload_n b dX12_goesOn_34 rfl rfl ?_
  refine z_iload b dX12_goesOn_35 rfl ?_
  refine z_bipush (v := 64) b dX12_goesOn_37 (by decide) ?_
  refine z_idiv (v := 4) b dX12_goesOn_39 (by decide) (by decide) ?_
  refine z_calli b (z_runV (q0 := 0) (As := [.int 4]) (st := []) b (c_X12_isAct_7 S h_a_7_0) cf_X12_isAct (mw_0 cy a S) rfl wm_X12_361 wi_X12_isAct ws_X12_isAct dX12_goesOn_40 rfl (Nat.le_of_ble_eq_true rfl) ⟨by decide, by decide, by decide, by decide⟩) (fun r11758 u11759 h11757 => ?_)
  obtain ⟨rfl, rfl⟩ := h11757
  refine z_if_ne_f (tgt := 52) b dX12_goesOn_43 (by decide) (by decide) ?_
  refine z_iinc (k9 := 0) (v := 319) (lv' := [(6, .int 319), (0, .ref (a 0)), (1, .int 0), (2, .int (-1)), (3, .int p0), (4, .int 7), (5, .int 0)]) b dX12_goesOn_46 rfl (by decide) (by decide) rfl ?_
  refine z_goto (tgt := 193) b dX12_goesOn_49 (by decide) ?_
  refine z_iinc (k9 := 0) (v := 320) (lv' := [(6, .int 320), (0, .ref (a 0)), (1, .int 0), (2, .int (-1)), (3, .int p0), (4, .int 7), (5, .int 0)]) b dX12_goesOn_193 rfl (by decide) (by decide) rfl ?_
  refine z_goto (tgt := 3) b dX12_goesOn_196 (by decide) ?_
  refine z_iload b dX12_goesOn_3 rfl ?_
  refine z_sipush (v := 768) b dX12_goesOn_5 (by decide) ?_
  refine z_icmp_ge_f (tgt := 199) b dX12_goesOn_8 (by decide) (by decide) ?_
  refine z_aload_n b dX12_goesOn_11 rfl rfl ?_
  refine z_get (q0 := 0) (k9 := 56) (v := .int (fi S 22)) b (mw_0 cy a S) rfl in_X12 (by decide) wf_X12_411 rfl dX12_goesOn_12 ?_
  refine z_eqi h_i_22 ?_
  refine z_iconst (v := (-1)) b dX12_goesOn_15 (by decide) ?_
  refine z_icmp_ne_f (tgt := 199) b dX12_goesOn_16 (by decide) (by decide) ?_
  refine z_aload_n b dX12_goesOn_19 rfl rfl ?_
  refine z_get (q0 := 0) (k9 := 57) (v := .int (fi S 23)) b (mw_0 cy a S) rfl in_X12 (by decide) wf_X12_408 rfl dX12_goesOn_20 ?_
  refine z_eqi h_i_23 ?_
  refine z_if_ne_f (tgt := 199) b dX12_goesOn_23 (by decide) (by decide) ?_
  refine z_iload b dX12_goesOn_26 rfl ?_
  refine z_bipush (v := 64) b dX12_goesOn_28 (by decide) ?_
  exact k

set_option maxHeartbeats 4000000 in
set_option maxRecDepth 100000 in
theorem ch_X12_goesOn_348 {p : Program} {l : Launch} {e : Env} {R : Room} {s : State} {m : MethodId} {args : Array Value} {below : List Frame} {meth : Method} {c : Code} {D : va_G} {cy : Nat → ClassId} {T0 tB tE : Nat} {A : Nat → Prop} {Q : State → Prop} {a : Nat → Nat} (S : GS) (p0 : Int32) (h_a_7_0 : ar S 7 0 = 0) (h_a_7_1 : ar S 7 1 = 0) (h_i_22 : fi S 22 = (-1)) (h_i_23 : fi S 23 = 0) (b : Bz p R s m args meth c D cy T0 tB tE A 11 cX12_goesOn RX12 none "goesOn" 2 43 0 0) (k : Z p l e R s m args below meth c D A 11 Q 0 0 (mw cy a S) [(6, .int 704), (0, .ref (a 0)), (1, .int 0), (2, .int (-1)), (3, .int p0), (4, .int 7), (5, .int 0)] 11 []) : Z p l e R s m args below meth c D A 11 Q 0 0 (mw cy a S) [(6, .int 320), (0, .ref (a 0)), (1, .int 0), (2, .int (-1)), (3, .int p0), (4, .int 7), (5, .int 0)] 30 [.int 64, .int 320] := by
  refine z_irem (v := 0) b dX12_goesOn_30 (by decide) (by decide) ?_
  refine z_if_ne_f (tgt := 52) b dX12_goesOn_31 (by decide) (by decide) ?_
  refine z_aload_n b dX12_goesOn_34 rfl rfl ?_
  refine z_iload b dX12_goesOn_35 rfl ?_
  refine z_bipush (v := 64) b dX12_goesOn_37 (by decide) ?_
  refine z_idiv (v := 5) b dX12_goesOn_39 (by decide) (by decide) ?_
  refine z_calli b (z_runV (q0 := 0) (As := [.int 5]) (st := []) b (c_X12_isAct_8 S h_a_7_0) cf_X12_isAct (mw_0 cy a S) rfl wm_X12_361 wi_X12_isAct ws_X12_isAct dX12_goesOn_40 rfl (Nat.le_of_ble_eq_true rfl) ⟨by decide, by decide, by decide, by decide⟩) (fun r11761 u11762 h11760 => ?_)
  obtain ⟨rfl, rfl⟩ := h11760
  refine z_if_ne_f (tgt := 52) b dX12_goesOn_43 (by decide) (by decide) ?_
  refine z_iinc (k9 := 0) (v := 383) (lv' := [(6, .int 383), (0, .ref (a 0)), (1, .int 0), (2, .int (-1)), (3, .int p0), (4, .int 7), (5, .int 0)]) b dX12_goesOn_46 rfl (by decide) (by decide) rfl ?_
  refine z_goto (tgt := 193) b dX12_goesOn_49 (by decide) ?_
  refine z_iinc (k9 := 0) (v := 384) (lv' := [(6, .int 384), (0, .ref (a 0)), (1, .int 0), (2, .int (-1)), (3, .int p0), (4, .int 7), (5, .int 0)]) b dX12_goesOn_193 rfl (by decide) (by decide) rfl ?_
  refine z_goto (tgt := 3) b dX12_goesOn_196 (by decide) ?_
  refine z_iload b dX12_goesOn_3 rfl ?_
  refine z_sipush (v := 768) b dX12_goesOn_5 (by decide) ?_
  refine z_icmp_ge_f (tgt := 199) b dX12_goesOn_8 (by decide) (by decide) ?_
  refine z_aload_n b dX12_goesOn_11 rfl rfl ?_
  refine z_get (q0 := 0) (k9 := 56) (v := .int (fi S 22)) b (mw_0 cy a S) rfl in_X12 (by decide) wf_X12_411 rfl dX12_goesOn_12 ?_
  refine z_eqi h_i_22 ?_
  refine z_iconst (v := (-1)) b dX12_goesOn_15 (by decide) ?_
  refine z_icmp_ne_f (tgt := 199) b dX12_goesOn_16 (by decide) (by decide) ?_
  refine z_aload_n b dX12_goesOn_19 rfl rfl ?_
  refine z_get (q0 := 0) (k9 := 57) (v := .int (fi S 23)) b (mw_0 cy a S) rfl in_X12 (by decide) wf_X12_408 rfl dX12_goesOn_20 ?_
  refine z_eqi h_i_23 ?_
  refine z_if_ne_f (tgt := 199) b dX12_goesOn_23 (by decide) (by decide) ?_
  refine z_iload b dX12_goesOn_26 rfl ?_
  refine z_bipush (v := 64) b dX12_goesOn_28 (by decide) ?_
  refine z_irem (v := 0) b dX12_goesOn_30 (by decide) (by decide) ?_
  refine z_if_ne_f (tgt := 52) b dX12_goesOn_31 (by decide) (by decide) ?_
  refine z_aload_n b dX12_goesOn_34 rfl rfl ?_
  refine z_iload b dX12_goesOn_35 rfl ?_
  refine z_bipush (v := 64) b dX12_goesOn_37 (by decide) ?_
  refine z_idiv (v := 6) b dX12_goesOn_39 (by decide) (by decide) ?_
  refine z_calli b (z_runV (q0 := 0) (As := [.int 6]) (st := []) b (c_X12_isAct_9 S h_a_7_1) cf_X12_isAct (mw_0 cy a S) rfl wm_X12_361 wi_X12_isAct ws_X12_isAct dX12_goesOn_40 rfl (Nat.le_of_ble_eq_true rfl) ⟨by decide, by decide, by decide, by decide⟩) (fun r11764 u11765 h11763 => ?_)
  obtain ⟨rfl, rfl⟩ := h11763
  refine z_if_ne_f (tgt := 52) b dX12_goesOn_43 (by decide) (by decide) ?_
  refine z_iinc (k9 := 0) (v := 447) (lv' := [(6, .int 447), (0, .ref (a 0)), (1, .int 0), (2, .int (-1)), (3, .int p0), (4, .int 7), (5, .int 0)]) b dX12_goesOn_46 rfl (by decide) (by decide) rfl ?_
  refine z_goto (tgt := 193) b dX12_goesOn_49 (by decide) ?_
  refine z_iinc (k9 := 0) (v := 448) (lv' := [(6, .int 448), (0, .ref (a 0)), (1, .int 0), (2, .int (-1)), (3, .int p0), (4, .int 7), (5, .int 0)]) b dX12_goesOn_193 rfl (by decide) (by decide) rfl ?_
  refine z_goto (tgt := 3) b dX12_goesOn_196 (by decide) ?_
  refine z_iload b dX12_goesOn_3 rfl ?_
  refine z_sipush (v := 768) b dX12_goesOn_5 (by decide) ?_
  refine z_icmp_ge_f (tgt := 199) b dX12_goesOn_8 (by decide) (by decide) ?_
  refine z_aload_n b dX12_goesOn_11 rfl rfl ?_
  refine z_get (q0 := 0) (k9 := 56) (v := .int (fi S 22)) b (mw_0 cy a S) rfl in_X12 (by decide) wf_X12_411 rfl dX12_goesOn_12 ?_
  refine z_eqi h_i_22 ?_
  refine z_iconst (v := (-1)) b dX12_goesOn_15 (by decide) ?_
  refine z_icmp_ne_f (tgt := 199) b dX12_goesOn_16 (by decide) (by decide) ?_
  refine z_aload_n b dX12_goesOn_19 rfl rfl ?_
  refine z_get (q0 := 0) (k9 := 57) (v := .int (fi S 23)) b (mw_0 cy a S) rfl in_X12 (by decide) wf_X12_408 rfl dX12_goesOn_20 ?_
  refine z_eqi h_i_23 ?_
  refine z_if_ne_f (tgt := 199) b dX12_goesOn_23 (by decide) (by decide) ?_
  refine z_iload b dX12_goesOn_26 rfl ?_
  refine z_bipush (v := 64) b dX12_goesOn_28 (by decide) ?_
  refine z_irem (v := 0) b dX12_goesOn_30 (by decide) (by decide) ?_
  refine z_if_ne_f (tgt := 52) b dX12_goesOn_31 (by decide) (by decide) ?_
  refine z_aload_n b dX12_goesOn_34 rfl rfl ?_
  refine z_iload b dX12_goesOn_35 rfl ?_
  refine z_bipush (v := 64) b dX12_goesOn_37 (by decide) ?_
  refine z_idiv (v := 7) b dX12_goesOn_39 (by decide) (by decide) ?_
  refine z_calli b (z_runV (q0 := 0) (As := [.int 7]) (st := []) b (c_X12_isAct_10 S h_a_7_1) cf_X12_isAct (mw_0 cy a S) rfl wm_X12_361 wi_X12_isAct ws_X12_isAct dX12_goesOn_40 rfl (Nat.le_of_ble_eq_true rfl) ⟨by decide, by decide, by decide, by decide⟩) (fun r11767 u11768 h11766 => ?_)
  obtain ⟨rfl, rfl⟩ := h11766
  refine z_if_ne_f (tgt := 52) b dX12_goesOn_43 (by decide) (by decide) ?_
  refine z_iinc (k9 := 0) (v := 511) (lv' := [(6, .int 511), (0, .ref (a 0)), (1, .int 0), (2, .int (-1)), (3, .int p0), (4, .int 7), (5, .int 0)]) b dX12_goesOn_46 rfl (by decide) (by decide) rfl ?_
  refine z_goto (tgt := 193) b dX12_goesOn_49 (by decide) ?_
  refine z_iinc (k9 := 0) (v := 512) (lv' := [(6, .int 512), (0, .ref (a 0)), (1, .int 0), (2, .int (-1)), (3, .int p0), (4, .int 7), (5, .int 0)]) b dX12_goesOn_193 rfl (by decide) (by decide) rfl ?_
  refine z_goto (tgt := 3) b dX12_goesOn_196 (by decide) ?_
  refine z_iload b dX12_goesOn_3 rfl ?_
  refine z_sipush (v := 768) b dX12_goesOn_5 (by decide) ?_
  refine z_icmp_ge_f (tgt := 199) b dX12_goesOn_8 (by decide) (by decide) ?_
  refine z_aload_n b dX12_goesOn_11 rfl rfl ?_
  refine z_get (q0 := 0) (k9 := 56) (v := .int (fi S 22)) b (mw_0 cy a S) rfl in_X12 (by decide) wf_X12_411 rfl dX12_goesOn_12 ?_
  refine z_eqi h_i_22 ?_
  refine z_iconst (v := (-1)) b dX12_goesOn_15 (by decide) ?_
  refine z_icmp_ne_f (tgt := 199) b dX12_goesOn_16 (by decide) (by decide) ?_
  refine z_aload_n b dX12_goesOn_19 rfl rfl ?_
  refine z_get (q0 := 0) (k9 := 57) (v := .int (fi S 23)) b (mw_0 cy a S) rfl in_X12 (by decide) wf_X12_408 rfl dX12_goesOn_20 ?_
  refine z_eqi h_i_23 ?_
  refine z_if_ne_f (tgt := 199) b dX12_goesOn_23 (by decide) (by decide) ?_
  refine z_iload b dX12_goesOn_26 rfl ?_
  refine z_bipush (v := 64) b dX12_goesOn_28 (by decide) ?_
  refine z_irem (v := 0) b dX12_goesOn_30 (by decide) (by decide) ?_
  refine z_if_ne_f (tgt := 52) b dX12_goesOn_31 (by decide) (by decide) ?_
  refine z_aload_n b dX12_goesOn_34 rfl rfl ?_
  refine z_iload b dX12_goesOn_35 rfl ?_
  refine z_bipush (v := 64) b dX12_goesOn_37 (by decide) ?_
  refine z_idiv (v := 8) b dX12_goesOn_39 (by decide) (by decide) ?_
  refine z_calli b (z_runV (q0 := 0) (As := [.int 8]) (st := []) b (c_X12_isAct_11 S h_a_7_1) cf_X12_isAct (mw_0 cy a S) rfl wm_X12_361 wi_X12_isAct ws_X12_isAct dX12_goesOn_40 rfl (Nat.le_of_ble_eq_true rfl) ⟨by decide, by decide, by decide, by decide⟩) (fun r11770 u11771 h11769 => ?_)
  obtain ⟨rfl, rfl⟩ := h11769
  refine z_if_ne_f (tgt := 52) b dX12_goesOn_43 (by decide) (by decide) ?_
  refine z_iinc (k9 := 0) (v := 575) (lv' := [(6, .int 575), (0, .ref (a 0)), (1, .int 0), (2, .int (-1)), (3, .int p0), (4, .int 7), (5, .int 0)]) b dX12_goesOn_46 rfl (by decide) (by decide) rfl ?_
  refine z_goto (tgt := 193) b dX12_goesOn_49 (by decide) ?_
  refine z_iinc (k9 := 0) (v := 576) (lv' := [(6, .int 576), (0, .ref (a 0)), (1, .int 0), (2, .int (-1)), (3, .int p0), (4, .int 7), (5, .int 0)]) b dX12_goesOn_193 rfl (by decide) (by decide) rfl ?_
  refine z_goto (tgt := 3) b dX12_goesOn_196 (by decide) ?_
  refine z_iload b dX12_goesOn_3 rfl ?_
  refine z_sipush (v := 768) b dX12_goesOn_5 (by decide) ?_
  refine z_icmp_ge_f (tgt := 199) b dX12_goesOn_8 (by decide) (by decide) ?_
  refine z_aload_n b dX12_goesOn_11 rfl rfl ?_
  refine z_get (q0 := 0) (k9 := 56) (v := .int (fi S 22)) b (mw_0 cy a S) rfl in_X12 (by decide) wf_X12_411 rfl dX12_goesOn_12 ?_
  refine z_eqi h_i_22 ?_
  refine z_iconst (v := (-1)) b dX12_goesOn_15 (by decide) ?_
  refine z_icmp_ne_f (tgt := 199) b dX12_goesOn_16 (by decide) (by decide) ?_
  refine z_aload_n b dX12_goesOn_19 rfl rfl ?_
  refine z_get (q0 := 0) (k9 := 57) (v := .int (fi S 23)) b (mw_0 cy a S) rfl in_X12 (by decide) wf_X12_408 rfl dX12_goesOn_20 ?_
  refine z_eqi h_i_23 ?_
  refine z_if_ne_f (tgt := 199) b dX12_goesOn_23 (by decide) (by decide) ?_
  refine z_iload b dX12_goesOn_26 rfl ?_
  refine z_bipush (v := 64) b dX12_goesOn_28 (by decide) ?_
  refine z_irem (v := 0) b dX12_goesOn_30 (by decide) (by decide) ?_
  refine z_if_ne_f (tgt := 52) b dX12_goesOn_31 (by decide) (by decide) ?_
  refine z_aload_n b dX12_goesOn_34 rfl rfl ?_
  refine z_iload b dX12_goesOn_35 rfl ?_
  refine z_bipush (v := 64) b dX12_goesOn_37 (by decide) ?_
  refine z_idiv (v := 9) b dX12_goesOn_39 (by decide) (by decide) ?_
  refine z_calli b (z_runV (q0 := 0) (As := [.int 9]) (st := []) b (c_X12_isAct_12 S h_a_7_1) cf_X12_isAct (mw_0 cy a S) rfl wm_X12_361 wi_X12_isAct ws_X12_isAct dX12_goesOn_40 rfl (Nat.le_of_ble_eq_true rfl) ⟨by decide, by decide, by decide, by decide⟩) (fun r11773 u11774 h11772 => ?_)
  obtain ⟨rfl, rfl⟩ := h11772
  refine z_if_ne_f (tgt := 52) b dX12_goesOn_43 (by decide) (by decide) ?_
  refine z_iinc (k9 := 0) (v := 639) (lv' := [(6, .int 639), (0, .ref (a 0)), (1, .int 0), (2, .int (-1)), (3, .int p0), (4, .int 7), (5, .int 0)]) b dX12_goesOn_46 rfl (by decide) (by decide) rfl ?_
  refine z_goto (tgt := 193) b dX12_goesOn_49 (by decide) ?_
  refine z_iinc (k9 := 0) (v := 640) (lv' := [(6, .int 640), (0, .ref (a 0)), (1, .int 0), (2, .int (-1)), (3, .int p0), (4, .int 7), (5, .int 0)]) b dX12_goesOn_193 rfl (by decide) (by decide) rfl ?_
  refine z_goto (tgt := 3) b dX12_goesOn_196 (by decide) ?_
  refine z_iload b dX12_goesOn_3 rfl ?_
  refine z_sipush (v := 768) b dX12_goesOn_5 (by decide) ?_
  refine z_icmp_ge_f (tgt := 199) b dX12_goesOn_8 (by decide) (by decide) ?_
  refine z_aload_n b dX12_goesOn_11 rfl rfl ?_
  refine z_get (q0 := 0) (k9 := 56) (v := .int (fi S 22)) b (mw_0 cy a S) rfl in_X12 (by decide) wf_X12_411 rfl dX12_goesOn_12 ?_
  refine z_eqi h_i_22 ?_
  refine z_iconst (v := (-1)) b dX12_goesOn_15 (by decide) ?_
  refine z_icmp_ne_f (tgt := 199) b dX12_goesOn_16 (by decide) (by decide) ?_
  refine z_aload_n b dX12_goesOn_19 rfl rfl ?_
  refine z_get (q0 := 0) (k9 := 57) (v := .int (fi S 23)) b (mw_0 cy a S) rfl in_X12 (by decide) wf_X12_408 rfl dX12_goesOn_20 ?_
  refine z_eqi h_i_23 ?_
  refine z_if_ne_f (tgt := 199) b dX12_goesOn_23 (by decide) (by decide) ?_
  refine z_iload b dX12_goesOn_26 rfl ?_
  refine z_bipush (v := 64) b dX12_goesOn_28 (by decide) ?_
  refine z_irem (v := 0) b dX12_goesOn_30 (by decide) (by decide) ?_
  refine z_if_ne_f (tgt := 52) b dX12_goesOn_31 (by decide) (by decide) ?_
  refine z_aload_n b dX12_goesOn_34 rfl rfl ?_
  refine z_iload b dX12_goesOn_35 rfl ?_
  refine z_bipush (v := 64) b dX12_goesOn_37 (by decide) ?_
  refine z_idiv (v := 10) b dX12_goesOn_39 (by decide) (by decide) ?_
  refine z_calli b (z_runV (q0 := 0) (As := [.int 10]) (st := []) b (c_X12_isAct_13 S h_a_7_1) cf_X12_isAct (mw_0 cy a S) rfl wm_X12_361 wi_X12_isAct ws_X12_isAct dX12_goesOn_40 rfl (Nat.le_of_ble_eq_true rfl) ⟨by decide, by decide, by decide, by decide⟩) (fun r11776 u11777 h11775 => ?_)
  obtain ⟨rfl, rfl⟩ := h11775
  refine z_if_ne_f (tgt := 52) b dX12_goesOn_43 (by decide) (by decide) ?_
  refine z_iinc (k9 := 0) (v := 703) (lv' := [(6, .int 703), (0, .ref (a 0)), (1, .int 0), (2, .int (-1)), (3, .int p0), (4, .int 7), (5, .int 0)]) b dX12_goesOn_46 rfl (by decide) (by decide) rfl ?_
  refine z_goto (tgt := 193) b dX12_goesOn_49 (by decide) ?_
  refine z_iinc (k9 := 0) (v := 704) (lv' := [(6, .int 704), (0, .ref (a 0)), (1, .int 0), (2, .int (-1)), (3, .int p0), (4, .int 7), (5, .int 0)]) b dX12_goesOn_193 rfl (by decide) (by decide) rfl ?_
  refine z_goto (tgt := 3) b dX12_goesOn_196 (by decide) ?_
  refine z_iload b dX12_goesOn_3 rfl ?_
  refine z_sipush (v := 768) b dX12_goesOn_5 (by decide) ?_
  refine z_icmp_ge_f (tgt := 199) b dX12_goesOn_8 (by decide) (by decide) ?_
  exact k

set_option maxHeartbeats 4000000 in
set_option maxRecDepth 100000 in
theorem c_X12_goesOn {l : Launch} {D : va_G} {cy : Nat → ClassId} {T0 tB tE : Nat} {a : Nat → Nat} (S : GS) (p0 : Int32) (h_i_22 : fi S 22 = (-1)) (h_i_23 : fi S 23 = 0) (h_a_7_0 : ar S 7 0 = 0) (h_a_7_1 : ar S 7 1 = 0) (hr_p0 : 1 ≤ p0.toInt ∧ p0.toInt ≤ 3) : Ct l D cy T0 tB tE yX12_goesOn cX12_goesOn 11 none 2 43 0 0 (mw cy a S) [.ref (a 0), .int 0, .int (-1), .int p0, .int 7, .int 0] (QV D (U := GS) (fun u => S = u) (mw cy a)) := by
  refine Ct.ofZ RX12 "goesOn" [(0, .ref (a 0)), (1, .int 0), (2, .int (-1)), (3, .int p0), (4, .int 7), (5, .int 0)] rfl rfl rfl rfl (Nat.le_of_ble_eq_true rfl) ?_
  intro p e R s m args below meth c A b
  refine ch_X12_goesOn_347 S p0 h_a_7_0 h_i_22 h_i_23  b ?_
  refine ch_X12_goesOn_348 S p0 h_a_7_0 h_a_7_1 h_i_22 h_i_23  b ?_
  refine z_aload_n b dX12_goesOn_11 rfl rfl ?_
  refine z_get (q0 := 0) (k9 := 56) (v := .int (fi S 22)) b (mw_0 cy a S) rfl in_X12 (by decide) wf_X12_411 rfl dX12_goesOn_12 ?_
  refine z_eqi h_i_22 ?_
  refine z_iconst (v := (-1)) b dX12_goesOn_15 (by decide) ?_
  refine z_icmp_ne_f (tgt := 199) b dX12_goesOn_16 (by decide) (by decide) ?_
  refine z_aload_n b dX12_goesOn_19 rfl rfl ?_
  refine z_get (q0 := 0) (k9 := 57) (v := .int (fi S 23)) b (mw_0 cy a S) rfl in_X12 (by decide) wf_X12_408 rfl dX12_goesOn_20 ?_
  refine z_eqi h_i_23 ?_
  refine z_if_ne_f (tgt := 199) b dX12_goesOn_23 (by decide) (by decide) ?_
  refine z_iload b dX12_goesOn_26 rfl ?_
  refine z_bipush (v := 64) b dX12_goesOn_28 (by decide) ?_
  refine z_irem (v := 0) b dX12_goesOn_30 (by decide) (by decide) ?_
  refine z_if_ne_f (tgt := 52) b dX12_goesOn_31 (by decide) (by decide) ?_
  refine z_aload_n b dX12_goesOn_34 rfl rfl ?_
  refine z_iload b dX12_goesOn_35 rfl ?_
  refine z_bipush (v := 64) b dX12_goesOn_37 (by decide) ?_
  refine z_idiv (v := 11) b dX12_goesOn_39 (by decide) (by decide) ?_
  refine z_calli b (z_runV (q0 := 0) (As := [.int 11]) (st := []) b (c_X12_isAct_14 S h_a_7_1) cf_X12_isAct (mw_0 cy a S) rfl wm_X12_361 wi_X12_isAct ws_X12_isAct dX12_goesOn_40 rfl (Nat.le_of_ble_eq_true rfl) ⟨by decide, by decide, by decide, by decide⟩) (fun r11779 u11780 h11778 => ?_)
  obtain ⟨rfl, rfl⟩ := h11778
  refine z_if_ne_f (tgt := 52) b dX12_goesOn_43 (by decide) (by decide) ?_
  refine z_iinc (k9 := 0) (v := 767) (lv' := [(6, .int 767), (0, .ref (a 0)), (1, .int 0), (2, .int (-1)), (3, .int p0), (4, .int 7), (5, .int 0)]) b dX12_goesOn_46 rfl (by decide) (by decide) rfl ?_
  refine z_goto (tgt := 193) b dX12_goesOn_49 (by decide) ?_
  refine z_iinc (k9 := 0) (v := 768) (lv' := [(6, .int 768), (0, .ref (a 0)), (1, .int 0), (2, .int (-1)), (3, .int p0), (4, .int 7), (5, .int 0)]) b dX12_goesOn_193 rfl (by decide) (by decide) rfl ?_
  refine z_goto (tgt := 3) b dX12_goesOn_196 (by decide) ?_
  refine z_iload b dX12_goesOn_3 rfl ?_
  refine z_sipush (v := 768) b dX12_goesOn_5 (by decide) ?_
  refine z_icmp_ge_t (tgt := 199) b dX12_goesOn_8 (by decide) (by decide) ?_
  exact z_vret (u := S) b rfl dX12_goesOn_199 rfl rfl (by decide) (by decide)

set_option maxHeartbeats 4000000 in
set_option maxRecDepth 100000 in
theorem c_X12_searches_2 {l : Launch} {D : va_G} {cy : Nat → ClassId} {T0 tB tE : Nat} {a : Nat → Nat} (S : GS) (p0 : Int32) (p1 : Int32) (h_i_21 : fi S 21 = 0) (h_i_23 : fi S 23 = 0) (h_l_0 : fl S 0 = 1649317774848) (h_a_29_992 : ar S 29 992 = (-1)) (h_a_28_0 : ar S 28 0 = 0) (h_a_7_0 : ar S 7 0 = 0) (h_a_7_1 : ar S 7 1 = 0) (hr_p0 : 1 ≤ p0.toInt ∧ p0.toInt ≤ 3) (hr_p1 : 1 ≤ p1.toInt ∧ p1.toInt ≤ 6) : Ct l D cy T0 tB tE yX12_searches cX12_searches 7 none 3 73 0 0 (mw cy a S) [.ref (a 0), .int (-1), .int p0, .int p1, .int 7, .int 0] (QV D (U := GS) (fun u => (si (su (su (sv (su (su (si S 22 (-1)) 29 992 0) 30 0 992) 0 0 1649317774848) 26 0 (-1)) 27 0 (-1)) 21 1) = u) (mw cy a)) := by
  refine Ct.ofZ RX12 "searches" [(0, .ref (a 0)), (1, .int (-1)), (2, .int p0), (3, .int p1), (4, .int 7), (5, .int 0)] rfl rfl rfl rfl (Nat.le_of_ble_eq_true rfl) ?_
  intro p e R s m args below meth c A b
  refine z_iconst (v := 0) b dX12_searches_0 (by decide) ?_
  refine z_istore (lv' := [(6, .int 0), (0, .ref (a 0)), (1, .int (-1)), (2, .int p0), (3, .int p1), (4, .int 7), (5, .int 0)]) b dX12_searches_1 (by decide) rfl ?_
  refine z_iload b dX12_searches_3 rfl ?_
  refine z_aload_n b dX12_searches_5 rfl rfl ?_
  refine z_get (q0 := 0) (k9 := 55) (v := .int (fi S 21)) b (mw_0 cy a S) rfl in_X12 (by decide) wf_X12_405 rfl dX12_searches_6 ?_
  refine z_eqi h_i_21 ?_
  refine z_icmp_ge_t (tgt := 31) b dX12_searches_9 (by decide) (by decide) ?_
  refine z_aload_n b dX12_searches_31 rfl rfl ?_
  refine z_iconst (v := 0) b dX12_searches_32 (by decide) ?_
  refine z_put (q0 := 0) (k9 := 55) tyX12 b (mw_0 cy a S) rfl in_X12 tyX12_ok nmX12 (by decide) wf_X12_405 rfl rfl rfl rfl (Nat.le_of_ble_eq_true rfl) dX12_searches_33 ((mwp_0_55 cy a S 0).trans (congrArg (mw cy a) (si_same h_i_21))) ?_
  refine z_aload_n b dX12_searches_36 rfl rfl ?_
  refine z_iconst (v := 0) b dX12_searches_37 (by decide) ?_
  refine z_put (q0 := 0) (k9 := 57) tyX12 b (mw_0 cy a S) rfl in_X12 tyX12_ok nmX12 (by decide) wf_X12_408 rfl rfl rfl rfl (Nat.le_of_ble_eq_true rfl) dX12_searches_38 ((mwp_0_57 cy a S 0).trans (congrArg (mw cy a) (si_same h_i_23))) ?_
  refine z_aload_n b dX12_searches_41 rfl rfl ?_
  refine z_iconst (v := (-1)) b dX12_searches_42 (by decide) ?_
  refine z_put (q0 := 0) (k9 := 56) tyX12 b (mw_0 cy a S) rfl in_X12 tyX12_ok nmX12 (by decide) wf_X12_411 rfl rfl rfl rfl (Nat.le_of_ble_eq_true rfl) dX12_searches_43 (mwp_0_56 cy a S (-1)) ?_
  refine z_aload_n b dX12_searches_46 rfl rfl ?_
  refine z_aload_n b dX12_searches_47 rfl rfl ?_
  refine z_get (q0 := 0) (k9 := 6) (v := .long (fl (si S 22 (-1)) 0)) b (mw_0 cy a (si S 22 (-1))) rfl in_X12 (by decide) wf_X12_153 rfl dX12_searches_48 ?_
  refine z_eql h_l_0 ?_
  refine z_iconst (v := (-1)) b dX12_searches_51 (by decide) ?_
  refine z_iconst (v := (-1)) b dX12_searches_52 (by decide) ?_
  refine z_callv b (z_runV (q0 := 0) (As := [.long 1649317774848, .int (-1), .int (-1)]) (st := []) b (c_X12_meets (si S 22 (-1)) h_a_29_992 h_i_21 h_a_28_0) cf_X12_meets (mw_0 cy a (si S 22 (-1))) rfl wm_X12_414 wi_X12_meets ws_X12_meets dX12_searches_53 rfl (Nat.le_of_ble_eq_true rfl) ⟨by decide, by decide, by decide, by decide⟩) (fun u11743 h11741 => ?_)
  obtain rfl := h11741
  refine z_iload_n b dX12_searches_56 rfl rfl ?_
  refine z_iconst (v := (-1)) b dX12_searches_57 (by decide) ?_
  refine z_icmp_eq_t (tgt := 78) b dX12_searches_58 (by decide) (by decide) ?_
  refine z_iconst (v := 0) b dX12_searches_78 (by decide) ?_
  refine z_istore (lv' := [(6, .int 0), (0, .ref (a 0)), (1, .int (-1)), (2, .int p0), (3, .int p1), (4, .int 7), (5, .int 0)]) b dX12_searches_79 (by decide) rfl ?_
  refine z_iload b dX12_searches_81 rfl ?_
  refine z_aload_n b dX12_searches_83 rfl rfl ?_
  refine z_get (q0 := 0) (k9 := 55) (v := .int 1) b (mw_0 cy a (si (su (su (sv (su (su (si S 22 (-1)) 29 992 0) 30 0 992) 0 0 1649317774848) 26 0 (-1)) 27 0 (-1)) 21 1)) rfl in_X12 (by decide) wf_X12_405 rfl dX12_searches_84 ?_
  refine z_icmp_ge_f (tgt := 134) b dX12_searches_87 (by decide) (by decide) ?_
  refine z_aload_n b dX12_searches_90 rfl rfl ?_
  refine z_get (q0 := 0) (k9 := 56) (v := .int (-1)) b (mw_0 cy a (si (su (su (sv (su (su (si S 22 (-1)) 29 992 0) 30 0 992) 0 0 1649317774848) 26 0 (-1)) 27 0 (-1)) 21 1)) rfl in_X12 (by decide) wf_X12_411 rfl dX12_searches_91 ?_
  refine z_iconst (v := (-1)) b dX12_searches_94 (by decide) ?_
  refine z_icmp_ne_f (tgt := 134) b dX12_searches_95 (by decide) (by decide) ?_
  refine z_aload_n b dX12_searches_98 rfl rfl ?_
  refine z_get (q0 := 0) (k9 := 57) (v := .int (fi (si (su (su (sv (su (su (si S 22 (-1)) 29 992 0) 30 0 992) 0 0 1649317774848) 26 0 (-1)) 27 0 (-1)) 21 1) 23)) b (mw_0 cy a (si (su (su (sv (su (su (si S 22 (-1)) 29 992 0) 30 0 992) 0 0 1649317774848) 26 0 (-1)) 27 0 (-1)) 21 1)) rfl in_X12 (by decide) wf_X12_408 rfl dX12_searches_99 ?_
  refine z_eqi h_i_23 ?_
  refine z_if_ne_f (tgt := 134) b dX12_searches_102 (by decide) (by decide) ?_
  refine z_aload_n b dX12_searches_105 rfl rfl ?_
  refine z_get (q0 := 0) (k9 := 52) (v := .ref (a 30)) b (mw_0 cy a (si (su (su (sv (su (su (si S 22 (-1)) 29 992 0) 30 0 992) 0 0 1649317774848) 26 0 (-1)) 27 0 (-1)) 21 1)) rfl in_X12 (by decide) wf_X12_107 rfl dX12_searches_106 ?_
  refine z_iload b dX12_searches_109 rfl ?_
  refine y_iald (q0 := 30) (j := 0) (v := (ar (si (su (su (sv (su (su (si S 22 (-1)) 29 992 0) 30 0 992) 0 0 1649317774848) 26 0 (-1)) 27 0 (-1)) 21 1) 28 0)) b (mw_30 cy a (si (su (su (sv (su (su (si S 22 (-1)) 29 992 0) 30 0 992) 0 0 1649317774848) 26 0 (-1)) 27 0 (-1)) 21 1)) (by decide) rfl dX12_searches_111 ?_
  refine z_eqi h_a_28_0 ?_
  refine z_iload_n b dX12_searches_112 rfl rfl ?_
  refine y_icmp_ge (tgt := 128) (xl := 0) (yl := p1.toInt) b (by decide) rfl dX12_searches_113 (by decide) (fun c11744 => ?_) (fun c11744 => ?_)
  · exfalso; omega
  · refine z_aload_n b dX12_searches_116 rfl rfl ?_
    refine z_iload b dX12_searches_117 rfl ?_
    refine z_iload_n b dX12_searches_119 rfl rfl ?_
    refine z_iload_n b dX12_searches_120 rfl rfl ?_
    refine z_iload b dX12_searches_121 rfl ?_
    refine z_iload b dX12_searches_123 rfl ?_
    refine z_callv b (z_runV (q0 := 0) (As := [.int 0, .int (-1), .int p0, .int 7, .int 0]) (st := []) b (c_X12_goesOn (si (su (su (sv (su (su (si S 22 (-1)) 29 992 0) 30 0 992) 0 0 1649317774848) 26 0 (-1)) 27 0 (-1)) 21 1) p0 rfl h_i_23 h_a_7_0 h_a_7_1 ⟨by omega, by omega⟩) cf_X12_goesOn (mw_0 cy a (si (su (su (sv (su (su (si S 22 (-1)) 29 992 0) 30 0 992) 0 0 1649317774848) 26 0 (-1)) 27 0 (-1)) 21 1)) rfl wm_X12_422 wi_X12_goesOn ws_X12_goesOn dX12_searches_125 rfl (Nat.le_of_ble_eq_true rfl) ⟨by decide, by decide, by decide, by decide⟩) (fun u11783 h11781 => ?_)
    obtain rfl := h11781
    refine z_iinc (k9 := 0) (v := 1) (lv' := [(6, .int 1), (0, .ref (a 0)), (1, .int (-1)), (2, .int p0), (3, .int p1), (4, .int 7), (5, .int 0)]) b dX12_searches_128 rfl (by decide) (by decide) rfl ?_
    refine z_goto (tgt := 81) b dX12_searches_131 (by decide) ?_
    refine z_iload b dX12_searches_81 rfl ?_
    refine z_aload_n b dX12_searches_83 rfl rfl ?_
    refine z_get (q0 := 0) (k9 := 55) (v := .int 1) b (mw_0 cy a (si (su (su (sv (su (su (si S 22 (-1)) 29 992 0) 30 0 992) 0 0 1649317774848) 26 0 (-1)) 27 0 (-1)) 21 1)) rfl in_X12 (by decide) wf_X12_405 rfl dX12_searches_84 ?_
    refine z_icmp_ge_t (tgt := 134) b dX12_searches_87 (by decide) (by decide) ?_
    exact z_vret (u := (si (su (su (sv (su (su (si S 22 (-1)) 29 992 0) 30 0 992) 0 0 1649317774848) 26 0 (-1)) 27 0 (-1)) 21 1)) b rfl dX12_searches_134 rfl rfl (by decide) (by decide)

set_option maxHeartbeats 4000000 in
set_option maxRecDepth 100000 in
theorem c_X12_met_9 {l : Launch} {D : va_G} {cy : Nat → ClassId} {T0 tB tE : Nat} {a : Nat → Nat} (S : GS) (p0 : Int32) (p1 : Int32) (h_i_21 : fi S 21 = 0) (h_i_23 : fi S 23 = 0) (h_l_0 : fl S 0 = 1649317774848) (h_a_29_992 : ar S 29 992 = (-1)) (h_a_28_0 : ar S 28 0 = 0) (h_a_7_0 : ar S 7 0 = 0) (h_a_7_1 : ar S 7 1 = 0) (hr_p0 : 1 ≤ p0.toInt ∧ p0.toInt ≤ 3) (hr_p1 : 1 ≤ p1.toInt ∧ p1.toInt ≤ 6) : Ct l D cy T0 tB tE yX12_met cX12_met 10 (some .int) 4 99 0 0 (mw cy a S) [.ref (a 0), .int p0, .int p1, .int 0] (QI D (U := GS) (fun r u => 1 = r ∧ (si (su (su (sv (su (su (si S 22 (-1)) 29 992 0) 30 0 992) 0 0 1649317774848) 26 0 (-1)) 27 0 (-1)) 21 1) = u) (mw cy a)) := by
  refine Ct.ofZ RX12 "met" [(0, .ref (a 0)), (1, .int p0), (2, .int p1), (3, .int 0)] rfl rfl rfl rfl (Nat.le_of_ble_eq_true rfl) ?_
  intro p e R s m args below meth c A b
  refine z_aload_n b dX12_met_0 rfl rfl ?_
  refine z_iload_n b dX12_met_1 rfl rfl ?_
  refine z_iload_n b dX12_met_2 rfl rfl ?_
  refine z_calli b (z_runV (q0 := 0) (As := [.int p0, .int p1]) (st := []) b (c_X12_canSearch_5 S p0 p1 ⟨by omega, by omega⟩ ⟨by omega, by omega⟩) cf_X12_canSearch (mw_0 cy a S) rfl wm_X12_433 wi_X12_canSearch ws_X12_canSearch dX12_met_3 rfl (Nat.le_of_ble_eq_true rfl) ⟨by decide, by decide, by decide, by decide⟩) (fun r11739 u11740 h11738 => ?_)
  obtain ⟨rfl, rfl⟩ := h11738
  refine z_if_ne_t (tgt := 11) b dX12_met_6 (by decide) (by decide) ?_
  refine z_aload_n b dX12_met_11 rfl rfl ?_
  refine z_iconst (v := (-1)) b dX12_met_12 (by decide) ?_
  refine z_iload_n b dX12_met_13 rfl rfl ?_
  refine z_iload_n b dX12_met_14 rfl rfl ?_
  refine z_bipush (v := 7) b dX12_met_15 (by decide) ?_
  refine z_iconst (v := 0) b dX12_met_17 (by decide) ?_
  refine z_callv b (z_runV (q0 := 0) (As := [.int (-1), .int p0, .int p1, .int 7, .int 0]) (st := []) b (c_X12_searches_2 S p0 p1 h_i_21 h_i_23 h_l_0 h_a_29_992 h_a_28_0 h_a_7_0 h_a_7_1 ⟨by omega, by omega⟩ ⟨by omega, by omega⟩) cf_X12_searches (mw_0 cy a S) rfl wm_X12_436 wi_X12_searches ws_X12_searches dX12_met_18 rfl (Nat.le_of_ble_eq_true rfl) ⟨by decide, by decide, by decide, by decide⟩) (fun u11786 h11784 => ?_)
  obtain rfl := h11784
  refine z_aload_n b dX12_met_21 rfl rfl ?_
  refine z_get (q0 := 0) (k9 := 57) (v := .int (fi (si (su (su (sv (su (su (si S 22 (-1)) 29 992 0) 30 0 992) 0 0 1649317774848) 26 0 (-1)) 27 0 (-1)) 21 1) 23)) b (mw_0 cy a (si (su (su (sv (su (su (si S 22 (-1)) 29 992 0) 30 0 992) 0 0 1649317774848) 26 0 (-1)) 27 0 (-1)) 21 1)) rfl in_X12 (by decide) wf_X12_408 rfl dX12_met_22 ?_
  refine z_eqi h_i_23 ?_
  refine z_if_eq_t (tgt := 31) b dX12_met_25 (by decide) (by decide) ?_
  refine z_iload_n b dX12_met_31 rfl rfl ?_
  refine z_if_ne_f (tgt := 40) b dX12_met_32 (by decide) (by decide) ?_
  refine z_aload_n b dX12_met_35 rfl rfl ?_
  refine z_get (q0 := 0) (k9 := 55) (v := .int 1) b (mw_0 cy a (si (su (su (sv (su (su (si S 22 (-1)) 29 992 0) 30 0 992) 0 0 1649317774848) 26 0 (-1)) 27 0 (-1)) 21 1)) rfl in_X12 (by decide) wf_X12_405 rfl dX12_met_36 ?_
  exact z_iret (u := (si (su (su (sv (su (su (si S 22 (-1)) 29 992 0) 30 0 992) 0 0 1649317774848) 26 0 (-1)) 27 0 (-1)) 21 1)) b rfl dX12_met_39 ⟨rfl, rfl⟩ rfl (by decide) (by decide)

set_option maxHeartbeats 4000000 in
set_option maxRecDepth 100000 in
theorem c_X11_met_10 {l : Launch} {D : va_G} {cy : Nat → ClassId} {T0 tB tE : Nat} {a : Nat → Nat} {rw : Nat → Option Nat} (S : GS) (p0 : Int32) (p1 : Int32) (h_i_19 : fi S 19 = 0) (h_i_24 : fi S 24 = 0) (h_i_22 : fi S 22 = 0) (h_i_18 : fi S 18 = 0) (h_i_25 : fi S 25 = 0) (h_i_23 : fi S 23 = 0) (h_i_26 : fi S 26 = 0) (h_a_4_50 : ar S 4 50 = 0) (h_a_4_40 : ar S 4 40 = 3) (h_a_4_41 : ar S 4 41 = 3) (h_a_4_42 : ar S 4 42 = 3) (h_a_4_0 : ar S 4 0 = 0) (h_a_4_11 : ar S 4 11 = 0) (h_a_4_21 : ar S 4 21 = 0) (h_a_4_31 : ar S 4 31 = 0) (h_a_4_12 : ar S 4 12 = 0) (h_a_4_22 : ar S 4 22 = 0) (h_a_4_32 : ar S 4 32 = 0) (h_a_4_1 : ar S 4 1 = 0) (h_a_4_13 : ar S 4 13 = 0) (h_a_4_23 : ar S 4 23 = 0) (h_a_4_33 : ar S 4 33 = 0) (h_a_4_15 : ar S 4 15 = 0) (h_a_4_25 : ar S 4 25 = 0) (h_a_4_35 : ar S 4 35 = 0) (h_a_4_2 : ar S 4 2 = 0) (h_a_4_16 : ar S 4 16 = 0) (h_a_4_26 : ar S 4 26 = 0) (h_a_4_36 : ar S 4 36 = 0) (h_a_4_17 : ar S 4 17 = 0) (h_a_4_27 : ar S 4 27 = 0) (h_a_4_37 : ar S 4 37 = 0) (h_a_10_0 : ar S 10 0 = 0) (h_a_9_50 : ar S 9 50 = 0) (h_a_9_40 : ar S 9 40 = 3) (h_a_9_41 : ar S 9 41 = 3) (h_a_9_42 : ar S 9 42 = 3) (h_a_9_0 : ar S 9 0 = 0) (h_a_9_11 : ar S 9 11 = 0) (h_a_9_21 : ar S 9 21 = 0) (h_a_9_31 : ar S 9 31 = 0) (h_a_9_12 : ar S 9 12 = 0) (h_a_9_22 : ar S 9 22 = 0) (h_a_9_32 : ar S 9 32 = 0) (h_a_9_1 : ar S 9 1 = 0) (h_a_9_13 : ar S 9 13 = 0) (h_a_9_23 : ar S 9 23 = 0) (h_a_9_33 : ar S 9 33 = 0) (h_a_9_15 : ar S 9 15 = 0) (h_a_9_25 : ar S 9 25 = 0) (h_a_9_35 : ar S 9 35 = 0) (h_a_9_2 : ar S 9 2 = 0) (h_a_9_16 : ar S 9 16 = 0) (h_a_9_26 : ar S 9 26 = 0) (h_a_9_36 : ar S 9 36 = 0) (h_a_9_17 : ar S 9 17 = 0) (h_a_9_27 : ar S 9 27 = 0) (h_a_9_37 : ar S 9 37 = 0) (hr_p0 : 1 ≤ p0.toInt ∧ p0.toInt ≤ 3) (hr_p1 : 1 ≤ p1.toInt ∧ p1.toInt ≤ 6) : Ct l D cy T0 tB tE yX11_met cX11_met 4 (some .int) 4 100 0 0 (cw cy tE a rw S) [.ref (a 0), .int p0, .int p1, .int 1] (QI D (U := GS) (fun r u => (((((0 < ((fi (su (si (su (su (sv (sa (si (si (si (si S 24 1) 19 p0) 20 p1) 21 7) 13 (fil 1024 0 (ar (si (si (si (si S 24 1) 19 p0) 20 p1) 21 7) 13))) 2 0 4128768) 11 0 (-1)) 12 0 (-1)) 25 1) 13 978 1) 20) : Int32).toInt)))) ∧ 1 = r ∧ sv (si (su (si (su (su (sv (sa (si (si (si (si S 24 1) 19 p0) 20 p1) 21 7) 13 (fil 1024 0 (ar (si (si (si (si S 24 1) 19 p0) 20 p1) 21 7) 13))) 2 0 4128768) 11 0 (-1)) 12 0 (-1)) 25 1) 13 978 1) 23 1) 3 0 4128768 = u) ∨ (((((((fi (su (si (su (su (sv (sa (si (si (si (si S 24 1) 19 p0) 20 p1) 21 7) 13 (fil 1024 0 (ar (si (si (si (si S 24 1) 19 p0) 20 p1) 21 7) 13))) 2 0 4128768) 11 0 (-1)) 12 0 (-1)) 25 1) 13 978 1) 20) : Int32).toInt ≤ 0)))) ∧ 1 = r ∧ sv (su (si (su (su (sv (sa (si (si (si (si S 24 1) 19 p0) 20 p1) 21 7) 13 (fil 1024 0 (ar (si (si (si (si S 24 1) 19 p0) 20 p1) 21 7) 13))) 2 0 4128768) 11 0 (-1)) 12 0 (-1)) 25 1) 13 978 1) 3 0 4128768 = u)) (cw cy tE a rw)) := by
  refine Ct.ofZ RX11 "met" [(0, .ref (a 0)), (1, .int p0), (2, .int p1), (3, .int 1)] rfl rfl rfl rfl (Nat.le_of_ble_eq_true rfl) ?_
  intro p e R s m args below meth c A b
  refine z_iload_n b dX11_met_0 rfl rfl ?_
  refine z_calli b (z_runS (As := [.int p0]) (st := []) b (c_X11_areLaws_3 S p0 ⟨by omega, by omega⟩) cf_X11_areLaws wm_X11_181 ws_X11_areLaws dX11_met_1 rfl (Nat.le_of_ble_eq_true rfl) ⟨by decide, by decide, by decide, by decide⟩) (fun r11788 u11789 h11787 => ?_)
  obtain ⟨rfl, rfl⟩ := h11787
  refine z_if_eq_f (tgt := 14) b dX11_met_4 (by decide) (by decide) ?_
  refine z_iload_n b dX11_met_7 rfl rfl ?_
  refine z_calli b (z_runS (As := [.int p1]) (st := []) b (c_X11_isDepth_3 S p1 ⟨by omega, by omega⟩) cf_X11_isDepth wm_X11_203 ws_X11_isDepth dX11_met_8 rfl (Nat.le_of_ble_eq_true rfl) ⟨by decide, by decide, by decide, by decide⟩) (fun r11791 u11792 h11790 => ?_)
  obtain ⟨rfl, rfl⟩ := h11790
  refine z_if_ne_t (tgt := 16) b dX11_met_11 (by decide) (by decide) ?_
  refine z_aload_n b dX11_met_16 rfl rfl ?_
  refine z_get (q0 := 0) (k9 := 6) (v := .ref (a 25)) b (cw_0 cy tE a rw S) rfl in_X11 (by decide) wf_X11_52 rfl dX11_met_17 ?_
  refine z_iload_n b dX11_met_20 rfl rfl ?_
  refine z_iload_n b dX11_met_21 rfl rfl ?_
  refine z_bipush (v := 7) b dX11_met_22 (by decide) ?_
  refine z_iconst (v := 0) b dX11_met_24 (by decide) ?_
  refine z_callv b (z_runV (q0 := 25) (As := [.int p0, .int p1, .int 7, .int 0]) (st := []) b (c_X8_begin_2 S p0 p1 h_i_19 h_i_24 h_i_22 h_i_18 h_i_25 h_i_23 h_i_26 h_a_4_50 h_a_4_40 h_a_4_41 h_a_4_42 h_a_4_0 h_a_4_11 h_a_4_21 h_a_4_31 h_a_4_12 h_a_4_22 h_a_4_32 h_a_4_1 h_a_4_13 h_a_4_23 h_a_4_33 h_a_4_15 h_a_4_25 h_a_4_35 h_a_4_2 h_a_4_16 h_a_4_26 h_a_4_36 h_a_4_17 h_a_4_27 h_a_4_37 h_a_10_0 ⟨by omega, by omega⟩ ⟨by omega, by omega⟩) cf_X8_begin (cw_25 cy tE a rw S) rfl wm_X11_206 wi_X8_begin ws_X8_begin dX11_met_25 rfl (Nat.le_of_ble_eq_true rfl) ⟨by decide, by decide, by decide, by decide⟩) (fun u11795 h11793 => ?_)
  obtain rfl := h11793
  refine z_aload_n b dX11_met_28 rfl rfl ?_
  refine z_get (q0 := 0) (k9 := 6) (v := .ref (a 25)) b (cw_0 cy tE a rw (su (si (su (su (sv (sa (si (si (si (si S 24 1) 19 p0) 20 p1) 21 7) 13 (fil 1024 0 (ar (si (si (si (si S 24 1) 19 p0) 20 p1) 21 7) 13))) 2 0 4128768) 11 0 (-1)) 12 0 (-1)) 25 1) 13 978 1)) rfl in_X11 (by decide) wf_X11_52 rfl dX11_met_29 ?_
  refine z_callv b (z_runV (q0 := 25) (As := []) (st := []) b (c_X8_finish_2 (su (si (su (su (sv (sa (si (si (si (si S 24 1) 19 p0) 20 p1) 21 7) 13 (fil 1024 0 (ar (si (si (si (si S 24 1) 19 p0) 20 p1) 21 7) 13))) 2 0 4128768) 11 0 (-1)) 12 0 (-1)) 25 1) 13 978 1) h_i_26 h_i_23 rfl h_a_10_0 rfl h_a_9_50 h_a_9_40 h_a_9_41 h_a_9_42 h_a_9_0 h_a_9_11 h_a_9_21 h_a_9_31 h_a_9_12 h_a_9_22 h_a_9_32 h_a_9_1 h_a_9_13 h_a_9_23 h_a_9_33 h_a_9_15 h_a_9_25 h_a_9_35 h_a_9_2 h_a_9_16 h_a_9_26 h_a_9_36 h_a_9_17 h_a_9_27 h_a_9_37 h_i_18) cf_X8_finish (cw_25 cy tE a rw (su (si (su (su (sv (sa (si (si (si (si S 24 1) 19 p0) 20 p1) 21 7) 13 (fil 1024 0 (ar (si (si (si (si S 24 1) 19 p0) 20 p1) 21 7) 13))) 2 0 4128768) 11 0 (-1)) 12 0 (-1)) 25 1) 13 978 1)) rfl wm_X11_232 wi_X8_finish ws_X8_finish dX11_met_32 rfl (Nat.le_of_ble_eq_true rfl) ⟨by decide, by decide, by decide, by decide⟩) (fun u11798 h11796 => ?_)
  rcases h11796 with ⟨c11799, rfl⟩ | ⟨c11800, rfl⟩
  · refine z_aload_n b dX11_met_35 rfl rfl ?_
    refine z_get (q0 := 0) (k9 := 6) (v := .ref (a 25)) b (cw_0 cy tE a rw (si (su (si (su (su (sv (sa (si (si (si (si S 24 1) 19 p0) 20 p1) 21 7) 13 (fil 1024 0 (ar (si (si (si (si S 24 1) 19 p0) 20 p1) 21 7) 13))) 2 0 4128768) 11 0 (-1)) 12 0 (-1)) 25 1) 13 978 1) 23 1)) rfl in_X11 (by decide) wf_X11_52 rfl dX11_met_36 ?_
    refine z_get (q0 := 25) (k9 := 18) (v := .int (fi (si (su (si (su (su (sv (sa (si (si (si (si S 24 1) 19 p0) 20 p1) 21 7) 13 (fil 1024 0 (ar (si (si (si (si S 24 1) 19 p0) 20 p1) 21 7) 13))) 2 0 4128768) 11 0 (-1)) 12 0 (-1)) 25 1) 13 978 1) 23 1) 26)) b (cw_25 cy tE a rw (si (su (si (su (su (sv (sa (si (si (si (si S 24 1) 19 p0) 20 p1) 21 7) 13 (fil 1024 0 (ar (si (si (si (si S 24 1) 19 p0) 20 p1) 21 7) 13))) 2 0 4128768) 11 0 (-1)) 12 0 (-1)) 25 1) 13 978 1) 23 1)) rfl in_X8 (by decide) wf_X11_214 rfl dX11_met_39 ?_
    refine z_eqi h_i_26 ?_
    refine z_if_eq_t (tgt := 48) b dX11_met_42 (by decide) (by decide) ?_
    refine z_iload_n b dX11_met_48 rfl rfl ?_
    refine z_if_eq_f (tgt := 62) b dX11_met_49 (by decide) (by decide) ?_
    refine z_aload_n b dX11_met_52 rfl rfl ?_
    refine z_get (q0 := 0) (k9 := 6) (v := .ref (a 25)) b (cw_0 cy tE a rw (si (su (si (su (su (sv (sa (si (si (si (si S 24 1) 19 p0) 20 p1) 21 7) 13 (fil 1024 0 (ar (si (si (si (si S 24 1) 19 p0) 20 p1) 21 7) 13))) 2 0 4128768) 11 0 (-1)) 12 0 (-1)) 25 1) 13 978 1) 23 1)) rfl in_X11 (by decide) wf_X11_52 rfl dX11_met_53 ?_
    refine z_calli b (z_runV (q0 := 25) (As := []) (st := []) b (c_X8_unlike (si (su (si (su (su (sv (sa (si (si (si (si S 24 1) 19 p0) 20 p1) 21 7) 13 (fil 1024 0 (ar (si (si (si (si S 24 1) 19 p0) 20 p1) 21 7) 13))) 2 0 4128768) 11 0 (-1)) 12 0 (-1)) 25 1) 13 978 1) 23 1) rfl rfl h_a_9_50 h_a_9_40 h_a_9_41 h_a_9_42 h_a_9_0 h_a_9_11 h_a_9_21 h_a_9_31 h_a_9_12 h_a_9_22 h_a_9_32 h_a_9_1 h_a_9_13 h_a_9_23 h_a_9_33 h_a_9_15 h_a_9_25 h_a_9_35 h_a_9_2 h_a_9_16 h_a_9_26 h_a_9_36 h_a_9_17 h_a_9_27 h_a_9_37) cf_X8_unlike (cw_25 cy tE a rw (si (su (si (su (su (sv (sa (si (si (si (si S 24 1) 19 p0) 20 p1) 21 7) 13 (fil 1024 0 (ar (si (si (si (si S 24 1) 19 p0) 20 p1) 21 7) 13))) 2 0 4128768) 11 0 (-1)) 12 0 (-1)) 25 1) 13 978 1) 23 1)) rfl wm_X11_235 wi_X8_unlike ws_X8_unlike dX11_met_56 rfl (Nat.le_of_ble_eq_true rfl) ⟨by decide, by decide, by decide, by decide⟩) (fun r11802 u11803 h11801 => ?_)
    obtain ⟨rfl, rfl⟩ := h11801
    refine z_goto (tgt := 69) b dX11_met_59 (by decide) ?_
    exact z_iret (u := (sv (si (su (si (su (su (sv (sa (si (si (si (si S 24 1) 19 p0) 20 p1) 21 7) 13 (fil 1024 0 (ar (si (si (si (si S 24 1) 19 p0) 20 p1) 21 7) 13))) 2 0 4128768) 11 0 (-1)) 12 0 (-1)) 25 1) 13 978 1) 23 1) 3 0 4128768)) b rfl dX11_met_69 (Or.inl ⟨c11799, rfl, rfl⟩) rfl (by decide) (by decide)
  · refine z_aload_n b dX11_met_35 rfl rfl ?_
    refine z_get (q0 := 0) (k9 := 6) (v := .ref (a 25)) b (cw_0 cy tE a rw (su (si (su (su (sv (sa (si (si (si (si S 24 1) 19 p0) 20 p1) 21 7) 13 (fil 1024 0 (ar (si (si (si (si S 24 1) 19 p0) 20 p1) 21 7) 13))) 2 0 4128768) 11 0 (-1)) 12 0 (-1)) 25 1) 13 978 1)) rfl in_X11 (by decide) wf_X11_52 rfl dX11_met_36 ?_
    refine z_get (q0 := 25) (k9 := 18) (v := .int (fi (su (si (su (su (sv (sa (si (si (si (si S 24 1) 19 p0) 20 p1) 21 7) 13 (fil 1024 0 (ar (si (si (si (si S 24 1) 19 p0) 20 p1) 21 7) 13))) 2 0 4128768) 11 0 (-1)) 12 0 (-1)) 25 1) 13 978 1) 26)) b (cw_25 cy tE a rw (su (si (su (su (sv (sa (si (si (si (si S 24 1) 19 p0) 20 p1) 21 7) 13 (fil 1024 0 (ar (si (si (si (si S 24 1) 19 p0) 20 p1) 21 7) 13))) 2 0 4128768) 11 0 (-1)) 12 0 (-1)) 25 1) 13 978 1)) rfl in_X8 (by decide) wf_X11_214 rfl dX11_met_39 ?_
    refine z_eqi h_i_26 ?_
    refine z_if_eq_t (tgt := 48) b dX11_met_42 (by decide) (by decide) ?_
    refine z_iload_n b dX11_met_48 rfl rfl ?_
    refine z_if_eq_f (tgt := 62) b dX11_met_49 (by decide) (by decide) ?_
    refine z_aload_n b dX11_met_52 rfl rfl ?_
    refine z_get (q0 := 0) (k9 := 6) (v := .ref (a 25)) b (cw_0 cy tE a rw (su (si (su (su (sv (sa (si (si (si (si S 24 1) 19 p0) 20 p1) 21 7) 13 (fil 1024 0 (ar (si (si (si (si S 24 1) 19 p0) 20 p1) 21 7) 13))) 2 0 4128768) 11 0 (-1)) 12 0 (-1)) 25 1) 13 978 1)) rfl in_X11 (by decide) wf_X11_52 rfl dX11_met_53 ?_
    refine z_calli b (z_runV (q0 := 25) (As := []) (st := []) b (c_X8_unlike (su (si (su (su (sv (sa (si (si (si (si S 24 1) 19 p0) 20 p1) 21 7) 13 (fil 1024 0 (ar (si (si (si (si S 24 1) 19 p0) 20 p1) 21 7) 13))) 2 0 4128768) 11 0 (-1)) 12 0 (-1)) 25 1) 13 978 1) rfl rfl h_a_9_50 h_a_9_40 h_a_9_41 h_a_9_42 h_a_9_0 h_a_9_11 h_a_9_21 h_a_9_31 h_a_9_12 h_a_9_22 h_a_9_32 h_a_9_1 h_a_9_13 h_a_9_23 h_a_9_33 h_a_9_15 h_a_9_25 h_a_9_35 h_a_9_2 h_a_9_16 h_a_9_26 h_a_9_36 h_a_9_17 h_a_9_27 h_a_9_37) cf_X8_unlike (cw_25 cy tE a rw (su (si (su (su (sv (sa (si (si (si (si S 24 1) 19 p0) 20 p1) 21 7) 13 (fil 1024 0 (ar (si (si (si (si S 24 1) 19 p0) 20 p1) 21 7) 13))) 2 0 4128768) 11 0 (-1)) 12 0 (-1)) 25 1) 13 978 1)) rfl wm_X11_235 wi_X8_unlike ws_X8_unlike dX11_met_56 rfl (Nat.le_of_ble_eq_true rfl) ⟨by decide, by decide, by decide, by decide⟩) (fun r11805 u11806 h11804 => ?_)
    obtain ⟨rfl, rfl⟩ := h11804
    refine z_goto (tgt := 69) b dX11_met_59 (by decide) ?_
    exact z_iret (u := (sv (su (si (su (su (sv (sa (si (si (si (si S 24 1) 19 p0) 20 p1) 21 7) 13 (fil 1024 0 (ar (si (si (si (si S 24 1) 19 p0) 20 p1) 21 7) 13))) 2 0 4128768) 11 0 (-1)) 12 0 (-1)) 25 1) 13 978 1) 3 0 4128768)) b rfl dX11_met_69 (Or.inr ⟨c11800, rfl, rfl⟩) rfl (by decide) (by decide)

set_option maxHeartbeats 4000000 in
set_option maxRecDepth 100000 in
theorem c_X12_met_10 {l : Launch} {D : va_G} {cy : Nat → ClassId} {T0 tB tE : Nat} {a : Nat → Nat} (S : GS) (p0 : Int32) (p1 : Int32) (h_i_21 : fi S 21 = 0) (h_i_23 : fi S 23 = 0) (h_l_0 : fl S 0 = 1649317774848) (h_a_29_992 : ar S 29 992 = (-1)) (h_a_28_0 : ar S 28 0 = 0) (h_a_7_0 : ar S 7 0 = 0) (h_a_7_1 : ar S 7 1 = 0) (h_a_4_7 : ar S 4 7 = 0) (h_a_1_7 : ar S 1 7 = 0) (h_a_4_6 : ar S 4 6 = 0) (h_a_1_6 : ar S 1 6 = 0) (h_a_3_6 : ar S 3 6 = 0) (h_a_3_2 : ar S 3 2 = 0) (h_a_2_2 : ar S 2 2 = 3) (h_a_0_2 : ar S 0 2 = 0) (h_a_4_3 : ar S 4 3 = 0) (h_a_1_3 : ar S 1 3 = 0) (h_a_4_5 : ar S 4 5 = 0) (h_a_1_5 : ar S 1 5 = 0) (h_a_3_5 : ar S 3 5 = 0) (h_a_3_7 : ar S 3 7 = 0) (h_a_2_1 : ar S 2 1 = 3) (h_a_0_1 : ar S 0 1 = 0) (h_a_4_2 : ar S 4 2 = 0) (h_a_1_2 : ar S 1 2 = 0) (h_a_4_1 : ar S 4 1 = 0) (h_a_1_1 : ar S 1 1 = 0) (h_a_3_1 : ar S 3 1 = 0) (h_a_3_3 : ar S 3 3 = 0) (h_a_2_0 : ar S 2 0 = 3) (h_a_0_0 : ar S 0 0 = 0) (h_i_0 : fi S 0 = 0) (h_a_32_0 : ar S 32 0 = 0) (h_a_32_1 : ar S 32 1 = 0) (h_a_32_2 : ar S 32 2 = 0) (h_a_1_0 : ar S 1 0 = 0) (h_a_33_0 : ar S 33 0 = 0) (h_a_3_0 : ar S 3 0 = 0) (h_a_35_0 : ar S 35 0 = 0) (h_a_4_0 : ar S 4 0 = 0) (h_a_36_0 : ar S 36 0 = 0) (h_a_33_1 : ar S 33 1 = 0) (h_a_35_1 : ar S 35 1 = 0) (h_a_36_1 : ar S 36 1 = 0) (h_a_33_2 : ar S 33 2 = 0) (h_a_35_2 : ar S 35 2 = 0) (h_a_36_2 : ar S 36 2 = 0) (h_a_33_3 : ar S 33 3 = 0) (h_a_35_3 : ar S 35 3 = 0) (h_a_36_3 : ar S 36 3 = 0) (h_a_1_4 : ar S 1 4 = 0) (h_a_33_4 : ar S 33 4 = 0) (h_a_3_4 : ar S 3 4 = 0) (h_a_35_4 : ar S 35 4 = 0) (h_a_4_4 : ar S 4 4 = 0) (h_a_36_4 : ar S 36 4 = 0) (h_a_33_5 : ar S 33 5 = 0) (h_a_35_5 : ar S 35 5 = 0) (h_a_36_5 : ar S 36 5 = 0) (h_a_33_6 : ar S 33 6 = 0) (h_a_35_6 : ar S 35 6 = 0) (h_a_36_6 : ar S 36 6 = 0) (h_a_33_7 : ar S 33 7 = 0) (h_a_35_7 : ar S 35 7 = 0) (h_a_36_7 : ar S 36 7 = 0) (h_a_1_8 : ar S 1 8 = 0) (h_a_33_8 : ar S 33 8 = 0) (h_a_3_8 : ar S 3 8 = 0) (h_a_35_8 : ar S 35 8 = 0) (h_a_4_8 : ar S 4 8 = 0) (h_a_36_8 : ar S 36 8 = 0) (h_a_31_0 : ar S 31 0 = 0) (h_a_31_1 : ar S 31 1 = 1) (h_a_31_2 : ar S 31 2 = 2) (h_a_31_3 : ar S 31 3 = 0) (h_a_31_4 : ar S 31 4 = 2) (h_a_31_5 : ar S 31 5 = 1) (h_a_31_6 : ar S 31 6 = 1) (h_a_31_7 : ar S 31 7 = 0) (h_a_31_8 : ar S 31 8 = 2) (h_a_31_9 : ar S 31 9 = 1) (h_a_31_10 : ar S 31 10 = 2) (h_a_31_11 : ar S 31 11 = 0) (h_a_31_12 : ar S 31 12 = 2) (h_a_31_13 : ar S 31 13 = 0) (h_a_31_14 : ar S 31 14 = 1) (h_a_31_15 : ar S 31 15 = 2) (h_a_31_16 : ar S 31 16 = 1) (h_a_31_17 : ar S 31 17 = 0) (hr_p0 : 1 ≤ p0.toInt ∧ p0.toInt ≤ 3) (hr_p1 : 1 ≤ p1.toInt ∧ p1.toInt ≤ 6) : Ct l D cy T0 tB tE yX12_met cX12_met 10 (some .int) 4 99 0 0 (mw cy a S) [.ref (a 0), .int p0, .int p1, .int 1] (QI D (U := GS) (fun r u => 1 = r ∧ sv (su (su (su (si (su (su (sv (su (su (si S 22 (-1)) 29 992 0) 30 0 992) 0 0 1649317774848) 26 0 (-1)) 27 0 (-1)) 21 1) 34 0 3) 34 1 3) 34 2 3) 1 0 1649317774848 = u) (mw cy a)) := by
  refine Ct.ofZ RX12 "met" [(0, .ref (a 0)), (1, .int p0), (2, .int p1), (3, .int 1)] rfl rfl rfl rfl (Nat.le_of_ble_eq_true rfl) ?_
  intro p e R s m args below meth c A b
  refine z_aload_n b dX12_met_0 rfl rfl ?_
  refine z_iload_n b dX12_met_1 rfl rfl ?_
  refine z_iload_n b dX12_met_2 rfl rfl ?_
  refine z_calli b (z_runV (q0 := 0) (As := [.int p0, .int p1]) (st := []) b (c_X12_canSearch_5 S p0 p1 ⟨by omega, by omega⟩ ⟨by omega, by omega⟩) cf_X12_canSearch (mw_0 cy a S) rfl wm_X12_433 wi_X12_canSearch ws_X12_canSearch dX12_met_3 rfl (Nat.le_of_ble_eq_true rfl) ⟨by decide, by decide, by decide, by decide⟩) (fun r11808 u11809 h11807 => ?_)
  obtain ⟨rfl, rfl⟩ := h11807
  refine z_if_ne_t (tgt := 11) b dX12_met_6 (by decide) (by decide) ?_
  refine z_aload_n b dX12_met_11 rfl rfl ?_
  refine z_iconst (v := (-1)) b dX12_met_12 (by decide) ?_
  refine z_iload_n b dX12_met_13 rfl rfl ?_
  refine z_iload_n b dX12_met_14 rfl rfl ?_
  refine z_bipush (v := 7) b dX12_met_15 (by decide) ?_
  refine z_iconst (v := 0) b dX12_met_17 (by decide) ?_
  refine z_callv b (z_runV (q0 := 0) (As := [.int (-1), .int p0, .int p1, .int 7, .int 0]) (st := []) b (c_X12_searches_2 S p0 p1 h_i_21 h_i_23 h_l_0 h_a_29_992 h_a_28_0 h_a_7_0 h_a_7_1 ⟨by omega, by omega⟩ ⟨by omega, by omega⟩) cf_X12_searches (mw_0 cy a S) rfl wm_X12_436 wi_X12_searches ws_X12_searches dX12_met_18 rfl (Nat.le_of_ble_eq_true rfl) ⟨by decide, by decide, by decide, by decide⟩) (fun u11812 h11810 => ?_)
  obtain rfl := h11810
  refine z_aload_n b dX12_met_21 rfl rfl ?_
  refine z_get (q0 := 0) (k9 := 57) (v := .int (fi (si (su (su (sv (su (su (si S 22 (-1)) 29 992 0) 30 0 992) 0 0 1649317774848) 26 0 (-1)) 27 0 (-1)) 21 1) 23)) b (mw_0 cy a (si (su (su (sv (su (su (si S 22 (-1)) 29 992 0) 30 0 992) 0 0 1649317774848) 26 0 (-1)) 27 0 (-1)) 21 1)) rfl in_X12 (by decide) wf_X12_408 rfl dX12_met_22 ?_
  refine z_eqi h_i_23 ?_
  refine z_if_eq_t (tgt := 31) b dX12_met_25 (by decide) (by decide) ?_
  refine z_iload_n b dX12_met_31 rfl rfl ?_
  refine z_if_ne_t (tgt := 40) b dX12_met_32 (by decide) (by decide) ?_
  refine z_iconst (v := 0) b dX12_met_40 (by decide) ?_
  refine z_istore (lv' := [(4, .int 0), (0, .ref (a 0)), (1, .int p0), (2, .int p1), (3, .int 1)]) b dX12_met_41 (by decide) rfl ?_
  refine z_iconst (v := 0) b dX12_met_43 (by decide) ?_
  refine z_istore (lv' := [(5, .int 0), (4, .int 0), (0, .ref (a 0)), (1, .int p0), (2, .int p1), (3, .int 1)]) b dX12_met_44 (by decide) rfl ?_
  refine z_iload b dX12_met_46 rfl ?_
  refine z_aload_n b dX12_met_48 rfl rfl ?_
  refine z_get (q0 := 0) (k9 := 55) (v := .int 1) b (mw_0 cy a (si (su (su (sv (su (su (si S 22 (-1)) 29 992 0) 30 0 992) 0 0 1649317774848) 26 0 (-1)) 27 0 (-1)) 21 1)) rfl in_X12 (by decide) wf_X12_405 rfl dX12_met_49 ?_
  refine z_icmp_ge_f (tgt := 138) b dX12_met_52 (by decide) (by decide) ?_
  refine z_aload_n b dX12_met_55 rfl rfl ?_
  refine z_aload_n b dX12_met_56 rfl rfl ?_
  refine z_get (q0 := 0) (k9 := 49) (v := .ref (a 27)) b (mw_0 cy a (si (su (su (sv (su (su (si S 22 (-1)) 29 992 0) 30 0 992) 0 0 1649317774848) 26 0 (-1)) 27 0 (-1)) 21 1)) rfl in_X12 (by decide) wf_X12_97 rfl dX12_met_57 ?_
  refine z_iload b dX12_met_60 rfl ?_
  refine y_lald (q0 := 27) (j := 0) (v := 1649317774848) b (mw_27 cy a (si (su (su (sv (su (su (si S 22 (-1)) 29 992 0) 30 0 992) 0 0 1649317774848) 26 0 (-1)) 27 0 (-1)) 21 1)) (by decide) rfl dX12_met_62 ?_
  refine z_calll b (z_runV (q0 := 0) (As := [.long 1649317774848]) (st := []) b (c_X12_plainest (si (su (su (sv (su (su (si S 22 (-1)) 29 992 0) 30 0 992) 0 0 1649317774848) 26 0 (-1)) 27 0 (-1)) 21 1) h_a_4_7 h_a_1_7 h_a_4_6 h_a_1_6 h_a_3_6 h_a_3_2 h_a_2_2 h_a_0_2 h_a_4_3 h_a_1_3 h_a_4_5 h_a_1_5 h_a_3_5 h_a_3_7 h_a_2_1 h_a_0_1 h_a_4_2 h_a_1_2 h_a_4_1 h_a_1_1 h_a_3_1 h_a_3_3 h_a_2_0 h_a_0_0 h_i_0 h_a_32_0 h_a_32_1 h_a_32_2 h_a_1_0 h_a_33_0 h_a_3_0 h_a_35_0 h_a_4_0 h_a_36_0 h_a_33_1 h_a_35_1 h_a_36_1 h_a_33_2 h_a_35_2 h_a_36_2 h_a_33_3 h_a_35_3 h_a_36_3 h_a_1_4 h_a_33_4 h_a_3_4 h_a_35_4 h_a_4_4 h_a_36_4 h_a_33_5 h_a_35_5 h_a_36_5 h_a_33_6 h_a_35_6 h_a_36_6 h_a_33_7 h_a_35_7 h_a_36_7 h_a_1_8 h_a_33_8 h_a_3_8 h_a_35_8 h_a_4_8 h_a_36_8 h_a_31_0 h_a_31_1 h_a_31_2 h_a_31_3 h_a_31_4 h_a_31_5 h_a_31_6 h_a_31_7 h_a_31_8 h_a_31_9 h_a_31_10 h_a_31_11 h_a_31_12 h_a_31_13 h_a_31_14 h_a_31_15 h_a_31_16 h_a_31_17) cf_X12_plainest (mw_0 cy a (si (su (su (sv (su (su (si S 22 (-1)) 29 992 0) 30 0 992) 0 0 1649317774848) 26 0 (-1)) 27 0 (-1)) 21 1)) rfl wm_X12_448 wi_X12_plainest ws_X12_plainest dX12_met_63 rfl (Nat.le_of_ble_eq_true rfl) ⟨by decide, by decide, by decide, by decide⟩) (fun r11814 u11815 h11813 => ?_)
  obtain ⟨rfl, rfl⟩ := h11813
  refine z_lstore (lv' := [(6, .long 1649317774848), (5, .int 0), (4, .int 0), (0, .ref (a 0)), (1, .int p0), (2, .int p1), (3, .int 1)]) b dX12_met_66 (by decide) rfl ?_
  refine z_iconst (v := 1) b dX12_met_68 (by decide) ?_
  refine z_istore (lv' := [(8, .int 1), (6, .long 1649317774848), (5, .int 0), (4, .int 0), (0, .ref (a 0)), (1, .int p0), (2, .int p1), (3, .int 1)]) b dX12_met_69 (by decide) rfl ?_
  refine z_iconst (v := 0) b dX12_met_71 (by decide) ?_
  refine z_istore (lv' := [(9, .int 0), (8, .int 1), (6, .long 1649317774848), (5, .int 0), (4, .int 0), (0, .ref (a 0)), (1, .int p0), (2, .int p1), (3, .int 1)]) b dX12_met_72 (by decide) rfl ?_
  refine z_iload b dX12_met_74 rfl ?_
  refine z_iload b dX12_met_76 rfl ?_
  refine z_icmp_ge_t (tgt := 112) b dX12_met_78 (by decide) (by decide) ?_
  refine z_iload b dX12_met_112 rfl ?_
  refine z_if_ne_t (tgt := 120) b dX12_met_114 (by decide) (by decide) ?_
  refine z_aload_n b dX12_met_120 rfl rfl ?_
  refine z_get (q0 := 0) (k9 := 64) (v := .ref (a 39)) b (mw_0 cy a (su (su (su (si (su (su (sv (su (su (si S 22 (-1)) 29 992 0) 30 0 992) 0 0 1649317774848) 26 0 (-1)) 27 0 (-1)) 21 1) 34 0 3) 34 1 3) 34 2 3)) rfl in_X12 (by decide) wf_X12_134 rfl dX12_met_121 ?_
  refine z_iload b dX12_met_124 rfl ?_
  refine z_lload b dX12_met_126 rfl ?_
  refine y_last (q0 := 39) (j := 0) b (mw_39 cy a (su (su (su (si (su (su (sv (su (su (si S 22 (-1)) 29 992 0) 30 0 992) 0 0 1649317774848) 26 0 (-1)) 27 0 (-1)) 21 1) 34 0 3) 34 1 3) 34 2 3)) (by decide) dX12_met_128 (mwa_39 cy a (su (su (su (si (su (su (sv (su (su (si S 22 (-1)) 29 992 0) 30 0 992) 0 0 1649317774848) 26 0 (-1)) 27 0 (-1)) 21 1) 34 0 3) 34 1 3) 34 2 3) 0 1649317774848) ?_
  refine z_iinc (k9 := 4) (v := 1) (lv' := [(4, .int 1), (9, .int 0), (8, .int 1), (6, .long 1649317774848), (5, .int 0), (0, .ref (a 0)), (1, .int p0), (2, .int p1), (3, .int 1)]) b dX12_met_129 rfl (by decide) (by decide) rfl ?_
  refine z_iinc (k9 := 4) (v := 1) (lv' := [(5, .int 1), (4, .int 1), (9, .int 0), (8, .int 1), (6, .long 1649317774848), (0, .ref (a 0)), (1, .int p0), (2, .int p1), (3, .int 1)]) b dX12_met_132 rfl (by decide) (by decide) rfl ?_
  refine z_goto (tgt := 46) b dX12_met_135 (by decide) ?_
  refine z_iload b dX12_met_46 rfl ?_
  refine z_aload_n b dX12_met_48 rfl rfl ?_
  refine z_get (q0 := 0) (k9 := 55) (v := .int 1) b (mw_0 cy a (sv (su (su (su (si (su (su (sv (su (su (si S 22 (-1)) 29 992 0) 30 0 992) 0 0 1649317774848) 26 0 (-1)) 27 0 (-1)) 21 1) 34 0 3) 34 1 3) 34 2 3) 1 0 1649317774848)) rfl in_X12 (by decide) wf_X12_405 rfl dX12_met_49 ?_
  refine z_icmp_ge_t (tgt := 138) b dX12_met_52 (by decide) (by decide) ?_
  refine z_iload b dX12_met_138 rfl ?_
  exact z_iret (u := (sv (su (su (su (si (su (su (sv (su (su (si S 22 (-1)) 29 992 0) 30 0 992) 0 0 1649317774848) 26 0 (-1)) 27 0 (-1)) 21 1) 34 0 3) 34 1 3) 34 2 3) 1 0 1649317774848)) b rfl dX12_met_140 ⟨rfl, rfl⟩ rfl (by decide) (by decide)

set_option maxHeartbeats 4000000 in
set_option maxRecDepth 100000 in
theorem c_X11_isDepth_4 {l : Launch} {D : va_G} {cy : Nat → ClassId} {T0 tB tE : Nat} {a : Nat → Nat} {rw : Nat → Option Nat} (S : GS) (p0 : Int32)  (hr_p0 : 7 ≤ p0.toInt ∧ p0.toInt ≤ 2147483647) : Ct l D cy T0 tB tE yX11_isDepth cX11_isDepth 1 (some .boolean) 0 0 0 0 (cw cy tE a rw S) [.int p0] (QI D (U := GS) (fun r u => 0 = r ∧ S = u) (cw cy tE a rw)) := by
  refine Ct.ofZ RX11 "isDepth" [(0, .int p0)] rfl rfl rfl rfl (Nat.le_of_ble_eq_true rfl) ?_
  intro p e R s m args below meth c A b
  refine z_iload_n b dX11_isDepth_0 rfl rfl ?_
  refine y_if_lt (tgt := 14) (xl := p0.toInt) b rfl dX11_isDepth_1 (by decide) (fun c11819 => ?_) (fun c11819 => ?_)
  · exfalso; omega
  · refine z_iload_n b dX11_isDepth_4 rfl rfl ?_
    refine z_bipush (v := 6) b dX11_isDepth_5 (by decide) ?_
    refine y_icmp_gt (tgt := 14) (xl := p0.toInt) (yl := 6) b rfl (by decide) dX11_isDepth_7 (by decide) (fun c11820 => ?_) (fun c11820 => ?_)
    · refine z_iconst (v := 0) b dX11_isDepth_14 (by decide) ?_
      exact z_zret (u := S) b rfl (by decide) dX11_isDepth_15 ⟨rfl, rfl⟩ rfl (by decide) (by decide)
    · exfalso; omega

set_option maxHeartbeats 4000000 in
set_option maxRecDepth 100000 in
theorem c_X11_met_11 {l : Launch} {D : va_G} {cy : Nat → ClassId} {T0 tB tE : Nat} {a : Nat → Nat} {rw : Nat → Option Nat} (S : GS) (p0 : Int32) (p1 : Int32)  (hr_p0 : 1 ≤ p0.toInt ∧ p0.toInt ≤ 3) (hr_p1 : 7 ≤ p1.toInt ∧ p1.toInt ≤ 2147483647) : Ct l D cy T0 tB tE yX11_met cX11_met 4 (some .int) 1 20 0 0 (cw cy tE a rw S) [.ref (a 0), .int p0, .int p1, .int 0] (QI D (U := GS) (fun r u => (-1) = r ∧ S = u) (cw cy tE a rw)) := by
  refine Ct.ofZ RX11 "met" [(0, .ref (a 0)), (1, .int p0), (2, .int p1), (3, .int 0)] rfl rfl rfl rfl (Nat.le_of_ble_eq_true rfl) ?_
  intro p e R s m args below meth c A b
  refine z_iload_n b dX11_met_0 rfl rfl ?_
  refine z_calli b (z_runS (As := [.int p0]) (st := []) b (c_X11_areLaws_3 S p0 ⟨by omega, by omega⟩) cf_X11_areLaws wm_X11_181 ws_X11_areLaws dX11_met_1 rfl (Nat.le_of_ble_eq_true rfl) ⟨by decide, by decide, by decide, by decide⟩) (fun r11817 u11818 h11816 => ?_)
  obtain ⟨rfl, rfl⟩ := h11816
  refine z_if_eq_f (tgt := 14) b dX11_met_4 (by decide) (by decide) ?_
  refine z_iload_n b dX11_met_7 rfl rfl ?_
  refine z_calli b (z_runS (As := [.int p1]) (st := []) b (c_X11_isDepth_4 S p1 ⟨by omega, by omega⟩) cf_X11_isDepth wm_X11_203 ws_X11_isDepth dX11_met_8 rfl (Nat.le_of_ble_eq_true rfl) ⟨by decide, by decide, by decide, by decide⟩) (fun r11822 u11823 h11821 => ?_)
  obtain ⟨rfl, rfl⟩ := h11821
  refine z_if_ne_f (tgt := 16) b dX11_met_11 (by decide) (by decide) ?_
  refine z_iconst (v := (-1)) b dX11_met_14 (by decide) ?_
  exact z_iret (u := S) b rfl dX11_met_15 ⟨rfl, rfl⟩ rfl (by decide) (by decide)

set_option maxHeartbeats 4000000 in
set_option maxRecDepth 100000 in
theorem c_X12_isIn_58 {l : Launch} {D : va_G} {cy : Nat → ClassId} {T0 tB tE : Nat} {a : Nat → Nat} (S : GS) (p0 : Int32)  (hr_p0 : 7 ≤ p0.toInt ∧ p0.toInt ≤ 2147483647) : Ct l D cy T0 tB tE yX12_isIn cX12_isIn 3 (some .boolean) 0 0 0 0 (mw cy a S) [.int p0, .int 0, .int 6] (QI D (U := GS) (fun r u => 0 = r ∧ S = u) (mw cy a)) := by
  refine Ct.ofZ RX12 "isIn" [(0, .int p0), (1, .int 0), (2, .int 6)] rfl rfl rfl rfl (Nat.le_of_ble_eq_true rfl) ?_
  intro p e R s m args below meth c A b
  refine z_iload_n b dX12_isIn_0 rfl rfl ?_
  refine z_iload_n b dX12_isIn_1 rfl rfl ?_
  refine y_icmp_lt (tgt := 14) (xl := p0.toInt) (yl := 0) b rfl (by decide) dX12_isIn_2 (by decide) (fun c11827 => ?_) (fun c11827 => ?_)
  · exfalso; omega
  · refine z_iload_n b dX12_isIn_5 rfl rfl ?_
    refine z_iload_n b dX12_isIn_6 rfl rfl ?_
    refine y_icmp_gt (tgt := 14) (xl := p0.toInt) (yl := 6) b rfl (by decide) dX12_isIn_7 (by decide) (fun c11828 => ?_) (fun c11828 => ?_)
    · refine z_iconst (v := 0) b dX12_isIn_14 (by decide) ?_
      exact z_zret (u := S) b rfl (by decide) dX12_isIn_15 ⟨rfl, rfl⟩ rfl (by decide) (by decide)
    · exfalso; omega

set_option maxHeartbeats 4000000 in
set_option maxRecDepth 100000 in
theorem c_X12_canSearch_6 {l : Launch} {D : va_G} {cy : Nat → ClassId} {T0 tB tE : Nat} {a : Nat → Nat} (S : GS) (p0 : Int32) (p1 : Int32)  (hr_p0 : 1 ≤ p0.toInt ∧ p0.toInt ≤ 3) (hr_p1 : 7 ≤ p1.toInt ∧ p1.toInt ≤ 2147483647) : Ct l D cy T0 tB tE yX12_canSearch cX12_canSearch 3 (some .boolean) 1 22 0 0 (mw cy a S) [.ref (a 0), .int p0, .int p1] (QI D (U := GS) (fun r u => 0 = r ∧ S = u) (mw cy a)) := by
  refine Ct.ofZ RX12 "canSearch" [(0, .ref (a 0)), (1, .int p0), (2, .int p1)] rfl rfl rfl rfl (Nat.le_of_ble_eq_true rfl) ?_
  intro p e R s m args below meth c A b
  refine z_iload_n b dX12_canSearch_0 rfl rfl ?_
  refine z_iconst (v := 1) b dX12_canSearch_1 (by decide) ?_
  refine z_iconst (v := 3) b dX12_canSearch_2 (by decide) ?_
  refine z_calli b (z_runS (As := [.int p0, .int 1, .int 3]) (st := []) b (c_X12_isIn_51 S p0 ⟨by omega, by omega⟩) cf_X12_isIn wm_X12_1 ws_X12_isIn dX12_canSearch_3 rfl (Nat.le_of_ble_eq_true rfl) ⟨by decide, by decide, by decide, by decide⟩) (fun r11825 u11826 h11824 => ?_)
  obtain ⟨rfl, rfl⟩ := h11824
  refine z_if_eq_f (tgt := 23) b dX12_canSearch_6 (by decide) (by decide) ?_
  refine z_iload_n b dX12_canSearch_9 rfl rfl ?_
  refine z_iconst (v := 0) b dX12_canSearch_10 (by decide) ?_
  refine z_bipush (v := 6) b dX12_canSearch_11 (by decide) ?_
  refine z_calli b (z_runS (As := [.int p1, .int 0, .int 6]) (st := []) b (c_X12_isIn_58 S p1 ⟨by omega, by omega⟩) cf_X12_isIn wm_X12_1 ws_X12_isIn dX12_canSearch_13 rfl (Nat.le_of_ble_eq_true rfl) ⟨by decide, by decide, by decide, by decide⟩) (fun r11830 u11831 h11829 => ?_)
  obtain ⟨rfl, rfl⟩ := h11829
  refine z_if_eq_t (tgt := 23) b dX12_canSearch_16 (by decide) (by decide) ?_
  refine z_iconst (v := 0) b dX12_canSearch_23 (by decide) ?_
  exact z_zret (u := S) b rfl (by decide) dX12_canSearch_24 ⟨rfl, rfl⟩ rfl (by decide) (by decide)

set_option maxHeartbeats 4000000 in
set_option maxRecDepth 100000 in
theorem c_X12_met_11 {l : Launch} {D : va_G} {cy : Nat → ClassId} {T0 tB tE : Nat} {a : Nat → Nat} (S : GS) (p0 : Int32) (p1 : Int32)  (hr_p0 : 1 ≤ p0.toInt ∧ p0.toInt ≤ 3) (hr_p1 : 7 ≤ p1.toInt ∧ p1.toInt ≤ 2147483647) : Ct l D cy T0 tB tE yX12_met cX12_met 10 (some .int) 2 44 0 0 (mw cy a S) [.ref (a 0), .int p0, .int p1, .int 0] (QI D (U := GS) (fun r u => (-1) = r ∧ S = u) (mw cy a)) := by
  refine Ct.ofZ RX12 "met" [(0, .ref (a 0)), (1, .int p0), (2, .int p1), (3, .int 0)] rfl rfl rfl rfl (Nat.le_of_ble_eq_true rfl) ?_
  intro p e R s m args below meth c A b
  refine z_aload_n b dX12_met_0 rfl rfl ?_
  refine z_iload_n b dX12_met_1 rfl rfl ?_
  refine z_iload_n b dX12_met_2 rfl rfl ?_
  refine z_calli b (z_runV (q0 := 0) (As := [.int p0, .int p1]) (st := []) b (c_X12_canSearch_6 S p0 p1 ⟨by omega, by omega⟩ ⟨by omega, by omega⟩) cf_X12_canSearch (mw_0 cy a S) rfl wm_X12_433 wi_X12_canSearch ws_X12_canSearch dX12_met_3 rfl (Nat.le_of_ble_eq_true rfl) ⟨by decide, by decide, by decide, by decide⟩) (fun r11833 u11834 h11832 => ?_)
  obtain ⟨rfl, rfl⟩ := h11832
  refine z_if_ne_f (tgt := 11) b dX12_met_6 (by decide) (by decide) ?_
  refine z_iconst (v := (-1)) b dX12_met_9 (by decide) ?_
  exact z_iret (u := S) b rfl dX12_met_10 ⟨rfl, rfl⟩ rfl (by decide) (by decide)

set_option maxHeartbeats 4000000 in
set_option maxRecDepth 100000 in
theorem c_X11_met_12 {l : Launch} {D : va_G} {cy : Nat → ClassId} {T0 tB tE : Nat} {a : Nat → Nat} {rw : Nat → Option Nat} (S : GS) (p0 : Int32) (p1 : Int32)  (hr_p0 : 1 ≤ p0.toInt ∧ p0.toInt ≤ 3) (hr_p1 : 7 ≤ p1.toInt ∧ p1.toInt ≤ 2147483647) : Ct l D cy T0 tB tE yX11_met cX11_met 4 (some .int) 1 20 0 0 (cw cy tE a rw S) [.ref (a 0), .int p0, .int p1, .int 1] (QI D (U := GS) (fun r u => (-1) = r ∧ S = u) (cw cy tE a rw)) := by
  refine Ct.ofZ RX11 "met" [(0, .ref (a 0)), (1, .int p0), (2, .int p1), (3, .int 1)] rfl rfl rfl rfl (Nat.le_of_ble_eq_true rfl) ?_
  intro p e R s m args below meth c A b
  refine z_iload_n b dX11_met_0 rfl rfl ?_
  refine z_calli b (z_runS (As := [.int p0]) (st := []) b (c_X11_areLaws_3 S p0 ⟨by omega, by omega⟩) cf_X11_areLaws wm_X11_181 ws_X11_areLaws dX11_met_1 rfl (Nat.le_of_ble_eq_true rfl) ⟨by decide, by decide, by decide, by decide⟩) (fun r11836 u11837 h11835 => ?_)
  obtain ⟨rfl, rfl⟩ := h11835
  refine z_if_eq_f (tgt := 14) b dX11_met_4 (by decide) (by decide) ?_
  refine z_iload_n b dX11_met_7 rfl rfl ?_
  refine z_calli b (z_runS (As := [.int p1]) (st := []) b (c_X11_isDepth_4 S p1 ⟨by omega, by omega⟩) cf_X11_isDepth wm_X11_203 ws_X11_isDepth dX11_met_8 rfl (Nat.le_of_ble_eq_true rfl) ⟨by decide, by decide, by decide, by decide⟩) (fun r11839 u11840 h11838 => ?_)
  obtain ⟨rfl, rfl⟩ := h11838
  refine z_if_ne_f (tgt := 16) b dX11_met_11 (by decide) (by decide) ?_
  refine z_iconst (v := (-1)) b dX11_met_14 (by decide) ?_
  exact z_iret (u := S) b rfl dX11_met_15 ⟨rfl, rfl⟩ rfl (by decide) (by decide)

set_option maxHeartbeats 4000000 in
set_option maxRecDepth 100000 in
theorem c_X12_met_12 {l : Launch} {D : va_G} {cy : Nat → ClassId} {T0 tB tE : Nat} {a : Nat → Nat} (S : GS) (p0 : Int32) (p1 : Int32)  (hr_p0 : 1 ≤ p0.toInt ∧ p0.toInt ≤ 3) (hr_p1 : 7 ≤ p1.toInt ∧ p1.toInt ≤ 2147483647) : Ct l D cy T0 tB tE yX12_met cX12_met 10 (some .int) 2 44 0 0 (mw cy a S) [.ref (a 0), .int p0, .int p1, .int 1] (QI D (U := GS) (fun r u => (-1) = r ∧ S = u) (mw cy a)) := by
  refine Ct.ofZ RX12 "met" [(0, .ref (a 0)), (1, .int p0), (2, .int p1), (3, .int 1)] rfl rfl rfl rfl (Nat.le_of_ble_eq_true rfl) ?_
  intro p e R s m args below meth c A b
  refine z_aload_n b dX12_met_0 rfl rfl ?_
  refine z_iload_n b dX12_met_1 rfl rfl ?_
  refine z_iload_n b dX12_met_2 rfl rfl ?_
  refine z_calli b (z_runV (q0 := 0) (As := [.int p0, .int p1]) (st := []) b (c_X12_canSearch_6 S p0 p1 ⟨by omega, by omega⟩ ⟨by omega, by omega⟩) cf_X12_canSearch (mw_0 cy a S) rfl wm_X12_433 wi_X12_canSearch ws_X12_canSearch dX12_met_3 rfl (Nat.le_of_ble_eq_true rfl) ⟨by decide, by decide, by decide, by decide⟩) (fun r11842 u11843 h11841 => ?_)
  obtain ⟨rfl, rfl⟩ := h11841
  refine z_if_ne_f (tgt := 11) b dX12_met_6 (by decide) (by decide) ?_
  refine z_iconst (v := (-1)) b dX12_met_9 (by decide) ?_
  exact z_iret (u := S) b rfl dX12_met_10 ⟨rfl, rfl⟩ rfl (by decide) (by decide)

