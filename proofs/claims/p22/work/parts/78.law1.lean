set_option maxHeartbeats 4000000 in
set_option maxRecDepth 100000 in
theorem lo_coin {p : Program} {l : Launch} {e : Env} {s : State} {m : MethodId} {below : List Frame} {meth : Method} {c : Code} {D : va_G} {cy : Nat → ClassId} {tB tE b : Nat} {a a2 : Nat → Nat} {rw : Nat → Option Nat} {xs : Nat → Int32} {L k nc ns : Nat} {S : KS} {M : GS} (B0 : Bz p room_1 s m #[Value.ref b] meth c D cy s.heap.size tB tE (fun q => s.heap.size ≤ q) 4 cL_law RL meth.sig.returnType meth.name 2048 84000 600000 7302250) (hX : va_X b L xs s s.heap) (hbl : b < s.heap.size) (hrw : ∀ i, i < 6 → rw i = some (a (12 + 2 * i))) (hL : L ≤ 3072) (hk : 6 * k + 6 ≤ L) (hm : nc ≤ 300000 ∧ ns ≤ 5000000) (hJ : JI cy tE S M) (fin : ∀ (S1 : KS) (M1 : GS) (nc1 ns1 : Nat), JI cy tE S1 M1 → nc1 ≤ nc + 259 → ns1 + 77 * (fi S1.1 0).toInt.toNat ≤ ns + 77 * (fi S.1 0).toInt.toNat + 2688 → Z p l e room_1 s m #[Value.ref b] below meth c D (fun q => s.heap.size ≤ q) 4 (lw_Z below #[Value.ref b] s) nc1 ns1 (kw cy a rw S1 ++ mw cy a2 M1) [(3, .int (nI (6 * k))), (2, .ref (a2 0)), (1, .ref (a 0)), (0, .ref b)] 1091 []) : Z p l e room_1 s m #[Value.ref b] below meth c D (fun q => s.heap.size ≤ q) 4 (lw_Z below #[Value.ref b] s) nc ns (kw cy a rw S ++ mw cy a2 M) [(3, .int (nI (6 * k))), (2, .ref (a2 0)), (1, .ref (a 0)), (0, .ref b)] 148 [] := by
  refine z_aload_n B0 dL_law_148 rfl rfl ?_
  refine z_aload_n B0 dL_law_149 rfl rfl ?_
  refine z_iload_n B0 dL_law_150 rfl rfl ?_
  refine z_iconst (v := 1) B0 dL_law_151 (by decide) ?_
  refine z_iadd (v := nI (6 * k + 1)) B0 dL_law_152 (nI_add (6 * k) 1) ?_
  refine y_sld (j := 6 * k + 1) (v := xs (6 * k + 1)) B0 hX hbl (zx_n (by omega) (Nat.lt_of_le_of_lt hL (by decide))) rfl dL_law_153 ?_
  refine z_aload_n B0 dL_law_154 rfl rfl ?_
  refine z_iload_n B0 dL_law_155 rfl rfl ?_
  refine z_iconst (v := 2) B0 dL_law_156 (by decide) ?_
  refine z_iadd (v := nI (6 * k + 2)) B0 dL_law_157 (nI_add (6 * k) 2) ?_
  refine y_sld (j := 6 * k + 2) (v := xs (6 * k + 2)) B0 hX hbl (zx_n (by omega) (Nat.lt_of_le_of_lt hL (by decide))) rfl dL_law_158 ?_
  refine z_callL B0 (z_runV (q0 := 0) (As := [.int (xs (6 * k + 1)), .int (xs (6 * k + 2))]) (st := []) B0 (k_X11_coin (a := a) hrw S (xs (6 * k + 1)) (xs (6 * k + 2)) _ (j_coin hJ (xs (6 * k + 1)) (xs (6 * k + 2)))) cf_X11_coin (kw_0 cy a rw S) rfl wm_L_13 wi_X11_coin ws_X11_coin dL_law_159 rfl (Nat.le_of_ble_eq_true rfl) ⟨by decide, by decide, by omega, by omega⟩) (fun r1 S1 h1 => ?_)
  refine z_pop B0 dL_law_162 rfl ?_
  refine z_aload_n B0 dL_law_163 rfl rfl ?_
  refine z_aload_n B0 dL_law_164 rfl rfl ?_
  refine z_iload_n B0 dL_law_165 rfl rfl ?_
  refine z_iconst (v := 1) B0 dL_law_166 (by decide) ?_
  refine z_iadd (v := nI (6 * k + 1)) B0 dL_law_167 (nI_add (6 * k) 1) ?_
  refine y_sld (j := 6 * k + 1) (v := xs (6 * k + 1)) B0 hX hbl (zx_n (by omega) (Nat.lt_of_le_of_lt hL (by decide))) rfl dL_law_168 ?_
  refine z_aload_n B0 dL_law_169 rfl rfl ?_
  refine z_iload_n B0 dL_law_170 rfl rfl ?_
  refine z_iconst (v := 2) B0 dL_law_171 (by decide) ?_
  refine z_iadd (v := nI (6 * k + 2)) B0 dL_law_172 (nI_add (6 * k) 2) ?_
  refine y_sld (j := 6 * k + 2) (v := xs (6 * k + 2)) B0 hX hbl (zx_n (by omega) (Nat.lt_of_le_of_lt hL (by decide))) rfl dL_law_173 ?_
  refine z_callL B0 (z_runV (q0 := 0) (As := [.int (xs (6 * k + 1)), .int (xs (6 * k + 2))]) (st := []) B0 (k_X12_coin (a := a2) M (xs (6 * k + 1)) (xs (6 * k + 2)) _ h1) cf_X12_coin (mw_0 cy a2 M) rfl wm_L_17 wi_X12_coin ws_X12_coin dL_law_174 rfl (Nat.le_of_ble_eq_true rfl) ⟨by decide, by decide, by omega, by omega⟩) (fun r2 M1 h2 => ?_)
  refine z_pop B0 dL_law_177 rfl ?_
  refine z_goto (tgt := 1091) B0 dL_law_178 (by decide) ?_
  have h3 : (fi S1.1 0).toInt ≤ (fi S.1 0).toInt + 20 := h2.2.2
  exact fin S1 M1 _ _ h2.2.1 (by omega) (by omega)
set_option maxHeartbeats 4000000 in
set_option maxRecDepth 100000 in
theorem lo_debt {p : Program} {l : Launch} {e : Env} {s : State} {m : MethodId} {below : List Frame} {meth : Method} {c : Code} {D : va_G} {cy : Nat → ClassId} {tB tE b : Nat} {a a2 : Nat → Nat} {rw : Nat → Option Nat} {xs : Nat → Int32} {L k nc ns : Nat} {S : KS} {M : GS} (B0 : Bz p room_1 s m #[Value.ref b] meth c D cy s.heap.size tB tE (fun q => s.heap.size ≤ q) 4 cL_law RL meth.sig.returnType meth.name 2048 84000 600000 7302250) (hX : va_X b L xs s s.heap) (hbl : b < s.heap.size) (hrw : ∀ i, i < 6 → rw i = some (a (12 + 2 * i))) (hL : L ≤ 3072) (hk : 6 * k + 6 ≤ L) (hm : nc ≤ 300000 ∧ ns ≤ 5000000) (hJ : JI cy tE S M) (fin : ∀ (S1 : KS) (M1 : GS) (nc1 ns1 : Nat), JI cy tE S1 M1 → nc1 ≤ nc + 259 → ns1 + 77 * (fi S1.1 0).toInt.toNat ≤ ns + 77 * (fi S.1 0).toInt.toNat + 2688 → Z p l e room_1 s m #[Value.ref b] below meth c D (fun q => s.heap.size ≤ q) 4 (lw_Z below #[Value.ref b] s) nc1 ns1 (kw cy a rw S1 ++ mw cy a2 M1) [(3, .int (nI (6 * k))), (2, .ref (a2 0)), (1, .ref (a 0)), (0, .ref b)] 1091 []) : Z p l e room_1 s m #[Value.ref b] below meth c D (fun q => s.heap.size ≤ q) 4 (lw_Z below #[Value.ref b] s) nc ns (kw cy a rw S ++ mw cy a2 M) [(3, .int (nI (6 * k))), (2, .ref (a2 0)), (1, .ref (a 0)), (0, .ref b)] 181 [] := by
  refine z_aload_n B0 dL_law_181 rfl rfl ?_
  refine z_aload_n B0 dL_law_182 rfl rfl ?_
  refine z_iload_n B0 dL_law_183 rfl rfl ?_
  refine z_iconst (v := 1) B0 dL_law_184 (by decide) ?_
  refine z_iadd (v := nI (6 * k + 1)) B0 dL_law_185 (nI_add (6 * k) 1) ?_
  refine y_sld (j := 6 * k + 1) (v := xs (6 * k + 1)) B0 hX hbl (zx_n (by omega) (Nat.lt_of_le_of_lt hL (by decide))) rfl dL_law_186 ?_
  refine z_aload_n B0 dL_law_187 rfl rfl ?_
  refine z_iload_n B0 dL_law_188 rfl rfl ?_
  refine z_iconst (v := 2) B0 dL_law_189 (by decide) ?_
  refine z_iadd (v := nI (6 * k + 2)) B0 dL_law_190 (nI_add (6 * k) 2) ?_
  refine y_sld (j := 6 * k + 2) (v := xs (6 * k + 2)) B0 hX hbl (zx_n (by omega) (Nat.lt_of_le_of_lt hL (by decide))) rfl dL_law_191 ?_
  refine z_aload_n B0 dL_law_192 rfl rfl ?_
  refine z_iload_n B0 dL_law_193 rfl rfl ?_
  refine z_iconst (v := 3) B0 dL_law_194 (by decide) ?_
  refine z_iadd (v := nI (6 * k + 3)) B0 dL_law_195 (nI_add (6 * k) 3) ?_
  refine y_sld (j := 6 * k + 3) (v := xs (6 * k + 3)) B0 hX hbl (zx_n (by omega) (Nat.lt_of_le_of_lt hL (by decide))) rfl dL_law_196 ?_
  refine z_callL B0 (z_runV (q0 := 0) (As := [.int (xs (6 * k + 1)), .int (xs (6 * k + 2)), .int (xs (6 * k + 3))]) (st := []) B0 (k_X11_debt (a := a) hrw S (xs (6 * k + 1)) (xs (6 * k + 2)) (xs (6 * k + 3)) _ (j_debt hJ (xs (6 * k + 1)) (xs (6 * k + 2)) (xs (6 * k + 3)))) cf_X11_debt (kw_0 cy a rw S) rfl wm_L_18 wi_X11_debt ws_X11_debt dL_law_197 rfl (Nat.le_of_ble_eq_true rfl) ⟨by decide, by decide, by omega, by omega⟩) (fun r1 S1 h1 => ?_)
  refine z_pop B0 dL_law_200 rfl ?_
  refine z_aload_n B0 dL_law_201 rfl rfl ?_
  refine z_aload_n B0 dL_law_202 rfl rfl ?_
  refine z_iload_n B0 dL_law_203 rfl rfl ?_
  refine z_iconst (v := 1) B0 dL_law_204 (by decide) ?_
  refine z_iadd (v := nI (6 * k + 1)) B0 dL_law_205 (nI_add (6 * k) 1) ?_
  refine y_sld (j := 6 * k + 1) (v := xs (6 * k + 1)) B0 hX hbl (zx_n (by omega) (Nat.lt_of_le_of_lt hL (by decide))) rfl dL_law_206 ?_
  refine z_aload_n B0 dL_law_207 rfl rfl ?_
  refine z_iload_n B0 dL_law_208 rfl rfl ?_
  refine z_iconst (v := 2) B0 dL_law_209 (by decide) ?_
  refine z_iadd (v := nI (6 * k + 2)) B0 dL_law_210 (nI_add (6 * k) 2) ?_
  refine y_sld (j := 6 * k + 2) (v := xs (6 * k + 2)) B0 hX hbl (zx_n (by omega) (Nat.lt_of_le_of_lt hL (by decide))) rfl dL_law_211 ?_
  refine z_aload_n B0 dL_law_212 rfl rfl ?_
  refine z_iload_n B0 dL_law_213 rfl rfl ?_
  refine z_iconst (v := 3) B0 dL_law_214 (by decide) ?_
  refine z_iadd (v := nI (6 * k + 3)) B0 dL_law_215 (nI_add (6 * k) 3) ?_
  refine y_sld (j := 6 * k + 3) (v := xs (6 * k + 3)) B0 hX hbl (zx_n (by omega) (Nat.lt_of_le_of_lt hL (by decide))) rfl dL_law_216 ?_
  refine z_callL B0 (z_runV (q0 := 0) (As := [.int (xs (6 * k + 1)), .int (xs (6 * k + 2)), .int (xs (6 * k + 3))]) (st := []) B0 (k_X12_debt (a := a2) M (xs (6 * k + 1)) (xs (6 * k + 2)) (xs (6 * k + 3)) _ h1) cf_X12_debt (mw_0 cy a2 M) rfl wm_L_22 wi_X12_debt ws_X12_debt dL_law_217 rfl (Nat.le_of_ble_eq_true rfl) ⟨by decide, by decide, by omega, by omega⟩) (fun r2 M1 h2 => ?_)
  refine z_pop B0 dL_law_220 rfl ?_
  refine z_goto (tgt := 1091) B0 dL_law_221 (by decide) ?_
  have h3 : (fi S1.1 0).toInt ≤ (fi S.1 0).toInt + 20 := h2.2.2
  exact fin S1 M1 _ _ h2.2.1 (by omega) (by omega)
set_option maxHeartbeats 4000000 in
set_option maxRecDepth 100000 in
theorem lo_kin {p : Program} {l : Launch} {e : Env} {s : State} {m : MethodId} {below : List Frame} {meth : Method} {c : Code} {D : va_G} {cy : Nat → ClassId} {tB tE b : Nat} {a a2 : Nat → Nat} {rw : Nat → Option Nat} {xs : Nat → Int32} {L k nc ns : Nat} {S : KS} {M : GS} (B0 : Bz p room_1 s m #[Value.ref b] meth c D cy s.heap.size tB tE (fun q => s.heap.size ≤ q) 4 cL_law RL meth.sig.returnType meth.name 2048 84000 600000 7302250) (hX : va_X b L xs s s.heap) (hbl : b < s.heap.size) (hrw : ∀ i, i < 6 → rw i = some (a (12 + 2 * i))) (hL : L ≤ 3072) (hk : 6 * k + 6 ≤ L) (hm : nc ≤ 300000 ∧ ns ≤ 5000000) (hJ : JI cy tE S M) (fin : ∀ (S1 : KS) (M1 : GS) (nc1 ns1 : Nat), JI cy tE S1 M1 → nc1 ≤ nc + 259 → ns1 + 77 * (fi S1.1 0).toInt.toNat ≤ ns + 77 * (fi S.1 0).toInt.toNat + 2688 → Z p l e room_1 s m #[Value.ref b] below meth c D (fun q => s.heap.size ≤ q) 4 (lw_Z below #[Value.ref b] s) nc1 ns1 (kw cy a rw S1 ++ mw cy a2 M1) [(3, .int (nI (6 * k))), (2, .ref (a2 0)), (1, .ref (a 0)), (0, .ref b)] 1091 []) : Z p l e room_1 s m #[Value.ref b] below meth c D (fun q => s.heap.size ≤ q) 4 (lw_Z below #[Value.ref b] s) nc ns (kw cy a rw S ++ mw cy a2 M) [(3, .int (nI (6 * k))), (2, .ref (a2 0)), (1, .ref (a 0)), (0, .ref b)] 224 [] := by
  by_cases hb : xs (6 * k + 4) = 0
  · refine z_aload_n B0 dL_law_224 rfl rfl ?_
    refine z_aload_n B0 dL_law_225 rfl rfl ?_
    refine z_iload_n B0 dL_law_226 rfl rfl ?_
    refine z_iconst (v := 1) B0 dL_law_227 (by decide) ?_
    refine z_iadd (v := nI (6 * k + 1)) B0 dL_law_228 (nI_add (6 * k) 1) ?_
    refine y_sld (j := 6 * k + 1) (v := xs (6 * k + 1)) B0 hX hbl (zx_n (by omega) (Nat.lt_of_le_of_lt hL (by decide))) rfl dL_law_229 ?_
    refine z_aload_n B0 dL_law_230 rfl rfl ?_
    refine z_iload_n B0 dL_law_231 rfl rfl ?_
    refine z_iconst (v := 2) B0 dL_law_232 (by decide) ?_
    refine z_iadd (v := nI (6 * k + 2)) B0 dL_law_233 (nI_add (6 * k) 2) ?_
    refine y_sld (j := 6 * k + 2) (v := xs (6 * k + 2)) B0 hX hbl (zx_n (by omega) (Nat.lt_of_le_of_lt hL (by decide))) rfl dL_law_234 ?_
    refine z_aload_n B0 dL_law_235 rfl rfl ?_
    refine z_iload_n B0 dL_law_236 rfl rfl ?_
    refine z_iconst (v := 3) B0 dL_law_237 (by decide) ?_
    refine z_iadd (v := nI (6 * k + 3)) B0 dL_law_238 (nI_add (6 * k) 3) ?_
    refine y_sld (j := 6 * k + 3) (v := xs (6 * k + 3)) B0 hX hbl (zx_n (by omega) (Nat.lt_of_le_of_lt hL (by decide))) rfl dL_law_239 ?_
    refine z_aload_n B0 dL_law_240 rfl rfl ?_
    refine z_iload_n B0 dL_law_241 rfl rfl ?_
    refine z_iconst (v := 4) B0 dL_law_242 (by decide) ?_
    refine z_iadd (v := nI (6 * k + 4)) B0 dL_law_243 (nI_add (6 * k) 4) ?_
    refine y_sld (j := 6 * k + 4) (v := xs (6 * k + 4)) B0 hX hbl (zx_n (by omega) (Nat.lt_of_le_of_lt hL (by decide))) rfl dL_law_244 ?_
    refine z_if_eq_t (tgt := 252) B0 dL_law_245 (by decide) hb ?_
    refine z_iconst (v := 0) B0 dL_law_252 (by decide) ?_
    refine z_callL B0 (z_runV (q0 := 0) (As := [.int (xs (6 * k + 1)), .int (xs (6 * k + 2)), .int (xs (6 * k + 3)), .int 0]) (st := []) B0 (k_X11_kin (a := a) hrw S (xs (6 * k + 1)) (xs (6 * k + 2)) (xs (6 * k + 3)) 0 _ (j_kin hJ (xs (6 * k + 1)) (xs (6 * k + 2)) (xs (6 * k + 3)) 0 (Or.inl rfl))) cf_X11_kin (kw_0 cy a rw S) rfl wm_L_23 wi_X11_kin ws_X11_kin dL_law_253 rfl (Nat.le_of_ble_eq_true rfl) ⟨by decide, by decide, by omega, by omega⟩) (fun r1 S1 h1 => ?_)
    refine z_pop B0 dL_law_256 rfl ?_
    refine z_aload_n B0 dL_law_257 rfl rfl ?_
    refine z_aload_n B0 dL_law_258 rfl rfl ?_
    refine z_iload_n B0 dL_law_259 rfl rfl ?_
    refine z_iconst (v := 1) B0 dL_law_260 (by decide) ?_
    refine z_iadd (v := nI (6 * k + 1)) B0 dL_law_261 (nI_add (6 * k) 1) ?_
    refine y_sld (j := 6 * k + 1) (v := xs (6 * k + 1)) B0 hX hbl (zx_n (by omega) (Nat.lt_of_le_of_lt hL (by decide))) rfl dL_law_262 ?_
    refine z_aload_n B0 dL_law_263 rfl rfl ?_
    refine z_iload_n B0 dL_law_264 rfl rfl ?_
    refine z_iconst (v := 2) B0 dL_law_265 (by decide) ?_
    refine z_iadd (v := nI (6 * k + 2)) B0 dL_law_266 (nI_add (6 * k) 2) ?_
    refine y_sld (j := 6 * k + 2) (v := xs (6 * k + 2)) B0 hX hbl (zx_n (by omega) (Nat.lt_of_le_of_lt hL (by decide))) rfl dL_law_267 ?_
    refine z_aload_n B0 dL_law_268 rfl rfl ?_
    refine z_iload_n B0 dL_law_269 rfl rfl ?_
    refine z_iconst (v := 3) B0 dL_law_270 (by decide) ?_
    refine z_iadd (v := nI (6 * k + 3)) B0 dL_law_271 (nI_add (6 * k) 3) ?_
    refine y_sld (j := 6 * k + 3) (v := xs (6 * k + 3)) B0 hX hbl (zx_n (by omega) (Nat.lt_of_le_of_lt hL (by decide))) rfl dL_law_272 ?_
    refine z_aload_n B0 dL_law_273 rfl rfl ?_
    refine z_iload_n B0 dL_law_274 rfl rfl ?_
    refine z_iconst (v := 4) B0 dL_law_275 (by decide) ?_
    refine z_iadd (v := nI (6 * k + 4)) B0 dL_law_276 (nI_add (6 * k) 4) ?_
    refine y_sld (j := 6 * k + 4) (v := xs (6 * k + 4)) B0 hX hbl (zx_n (by omega) (Nat.lt_of_le_of_lt hL (by decide))) rfl dL_law_277 ?_
    refine z_if_eq_t (tgt := 285) B0 dL_law_278 (by decide) hb ?_
    refine z_iconst (v := 0) B0 dL_law_285 (by decide) ?_
    refine z_callL B0 (z_runV (q0 := 0) (As := [.int (xs (6 * k + 1)), .int (xs (6 * k + 2)), .int (xs (6 * k + 3)), .int 0]) (st := []) B0 (k_X12_kin (a := a2) M (xs (6 * k + 1)) (xs (6 * k + 2)) (xs (6 * k + 3)) 0 _ h1) cf_X12_kin (mw_0 cy a2 M) rfl wm_L_27 wi_X12_kin ws_X12_kin dL_law_286 rfl (Nat.le_of_ble_eq_true rfl) ⟨by decide, by decide, by omega, by omega⟩) (fun r2 M1 h2 => ?_)
    refine z_pop B0 dL_law_289 rfl ?_
    refine z_goto (tgt := 1091) B0 dL_law_290 (by decide) ?_
    have h3 : (fi S1.1 0).toInt ≤ (fi S.1 0).toInt + 20 := h2.2.2
    exact fin S1 M1 _ _ h2.2.1 (by omega) (by omega)
  · refine z_aload_n B0 dL_law_224 rfl rfl ?_
    refine z_aload_n B0 dL_law_225 rfl rfl ?_
    refine z_iload_n B0 dL_law_226 rfl rfl ?_
    refine z_iconst (v := 1) B0 dL_law_227 (by decide) ?_
    refine z_iadd (v := nI (6 * k + 1)) B0 dL_law_228 (nI_add (6 * k) 1) ?_
    refine y_sld (j := 6 * k + 1) (v := xs (6 * k + 1)) B0 hX hbl (zx_n (by omega) (Nat.lt_of_le_of_lt hL (by decide))) rfl dL_law_229 ?_
    refine z_aload_n B0 dL_law_230 rfl rfl ?_
    refine z_iload_n B0 dL_law_231 rfl rfl ?_
    refine z_iconst (v := 2) B0 dL_law_232 (by decide) ?_
    refine z_iadd (v := nI (6 * k + 2)) B0 dL_law_233 (nI_add (6 * k) 2) ?_
    refine y_sld (j := 6 * k + 2) (v := xs (6 * k + 2)) B0 hX hbl (zx_n (by omega) (Nat.lt_of_le_of_lt hL (by decide))) rfl dL_law_234 ?_
    refine z_aload_n B0 dL_law_235 rfl rfl ?_
    refine z_iload_n B0 dL_law_236 rfl rfl ?_
    refine z_iconst (v := 3) B0 dL_law_237 (by decide) ?_
    refine z_iadd (v := nI (6 * k + 3)) B0 dL_law_238 (nI_add (6 * k) 3) ?_
    refine y_sld (j := 6 * k + 3) (v := xs (6 * k + 3)) B0 hX hbl (zx_n (by omega) (Nat.lt_of_le_of_lt hL (by decide))) rfl dL_law_239 ?_
    refine z_aload_n B0 dL_law_240 rfl rfl ?_
    refine z_iload_n B0 dL_law_241 rfl rfl ?_
    refine z_iconst (v := 4) B0 dL_law_242 (by decide) ?_
    refine z_iadd (v := nI (6 * k + 4)) B0 dL_law_243 (nI_add (6 * k) 4) ?_
    refine y_sld (j := 6 * k + 4) (v := xs (6 * k + 4)) B0 hX hbl (zx_n (by omega) (Nat.lt_of_le_of_lt hL (by decide))) rfl dL_law_244 ?_
    refine z_if_eq_f (tgt := 252) B0 dL_law_245 (by decide) hb ?_
    refine z_iconst (v := 1) B0 dL_law_248 (by decide) ?_
    refine z_goto (tgt := 253) B0 dL_law_249 (by decide) ?_
    refine z_callL B0 (z_runV (q0 := 0) (As := [.int (xs (6 * k + 1)), .int (xs (6 * k + 2)), .int (xs (6 * k + 3)), .int 1]) (st := []) B0 (k_X11_kin (a := a) hrw S (xs (6 * k + 1)) (xs (6 * k + 2)) (xs (6 * k + 3)) 1 _ (j_kin hJ (xs (6 * k + 1)) (xs (6 * k + 2)) (xs (6 * k + 3)) 1 (Or.inr rfl))) cf_X11_kin (kw_0 cy a rw S) rfl wm_L_23 wi_X11_kin ws_X11_kin dL_law_253 rfl (Nat.le_of_ble_eq_true rfl) ⟨by decide, by decide, by omega, by omega⟩) (fun r1 S1 h1 => ?_)
    refine z_pop B0 dL_law_256 rfl ?_
    refine z_aload_n B0 dL_law_257 rfl rfl ?_
    refine z_aload_n B0 dL_law_258 rfl rfl ?_
    refine z_iload_n B0 dL_law_259 rfl rfl ?_
    refine z_iconst (v := 1) B0 dL_law_260 (by decide) ?_
    refine z_iadd (v := nI (6 * k + 1)) B0 dL_law_261 (nI_add (6 * k) 1) ?_
    refine y_sld (j := 6 * k + 1) (v := xs (6 * k + 1)) B0 hX hbl (zx_n (by omega) (Nat.lt_of_le_of_lt hL (by decide))) rfl dL_law_262 ?_
    refine z_aload_n B0 dL_law_263 rfl rfl ?_
    refine z_iload_n B0 dL_law_264 rfl rfl ?_
    refine z_iconst (v := 2) B0 dL_law_265 (by decide) ?_
    refine z_iadd (v := nI (6 * k + 2)) B0 dL_law_266 (nI_add (6 * k) 2) ?_
    refine y_sld (j := 6 * k + 2) (v := xs (6 * k + 2)) B0 hX hbl (zx_n (by omega) (Nat.lt_of_le_of_lt hL (by decide))) rfl dL_law_267 ?_
    refine z_aload_n B0 dL_law_268 rfl rfl ?_
    refine z_iload_n B0 dL_law_269 rfl rfl ?_
    refine z_iconst (v := 3) B0 dL_law_270 (by decide) ?_
    refine z_iadd (v := nI (6 * k + 3)) B0 dL_law_271 (nI_add (6 * k) 3) ?_
    refine y_sld (j := 6 * k + 3) (v := xs (6 * k + 3)) B0 hX hbl (zx_n (by omega) (Nat.lt_of_le_of_lt hL (by decide))) rfl dL_law_272 ?_
    refine z_aload_n B0 dL_law_273 rfl rfl ?_
    refine z_iload_n B0 dL_law_274 rfl rfl ?_
    refine z_iconst (v := 4) B0 dL_law_275 (by decide) ?_
    refine z_iadd (v := nI (6 * k + 4)) B0 dL_law_276 (nI_add (6 * k) 4) ?_
    refine y_sld (j := 6 * k + 4) (v := xs (6 * k + 4)) B0 hX hbl (zx_n (by omega) (Nat.lt_of_le_of_lt hL (by decide))) rfl dL_law_277 ?_
    refine z_if_eq_f (tgt := 285) B0 dL_law_278 (by decide) hb ?_
    refine z_iconst (v := 1) B0 dL_law_281 (by decide) ?_
    refine z_goto (tgt := 286) B0 dL_law_282 (by decide) ?_
    refine z_callL B0 (z_runV (q0 := 0) (As := [.int (xs (6 * k + 1)), .int (xs (6 * k + 2)), .int (xs (6 * k + 3)), .int 1]) (st := []) B0 (k_X12_kin (a := a2) M (xs (6 * k + 1)) (xs (6 * k + 2)) (xs (6 * k + 3)) 1 _ h1) cf_X12_kin (mw_0 cy a2 M) rfl wm_L_27 wi_X12_kin ws_X12_kin dL_law_286 rfl (Nat.le_of_ble_eq_true rfl) ⟨by decide, by decide, by omega, by omega⟩) (fun r2 M1 h2 => ?_)
    refine z_pop B0 dL_law_289 rfl ?_
    refine z_goto (tgt := 1091) B0 dL_law_290 (by decide) ?_
    have h3 : (fi S1.1 0).toInt ≤ (fi S.1 0).toInt + 20 := h2.2.2
    exact fin S1 M1 _ _ h2.2.1 (by omega) (by omega)
set_option maxHeartbeats 4000000 in
set_option maxRecDepth 100000 in
theorem lo_owner {p : Program} {l : Launch} {e : Env} {s : State} {m : MethodId} {below : List Frame} {meth : Method} {c : Code} {D : va_G} {cy : Nat → ClassId} {tB tE b : Nat} {a a2 : Nat → Nat} {rw : Nat → Option Nat} {xs : Nat → Int32} {L k nc ns : Nat} {S : KS} {M : GS} (B0 : Bz p room_1 s m #[Value.ref b] meth c D cy s.heap.size tB tE (fun q => s.heap.size ≤ q) 4 cL_law RL meth.sig.returnType meth.name 2048 84000 600000 7302250) (hX : va_X b L xs s s.heap) (hbl : b < s.heap.size) (hrw : ∀ i, i < 6 → rw i = some (a (12 + 2 * i))) (hL : L ≤ 3072) (hk : 6 * k + 6 ≤ L) (hm : nc ≤ 300000 ∧ ns ≤ 5000000) (hJ : JI cy tE S M) (fin : ∀ (S1 : KS) (M1 : GS) (nc1 ns1 : Nat), JI cy tE S1 M1 → nc1 ≤ nc + 259 → ns1 + 77 * (fi S1.1 0).toInt.toNat ≤ ns + 77 * (fi S.1 0).toInt.toNat + 2688 → Z p l e room_1 s m #[Value.ref b] below meth c D (fun q => s.heap.size ≤ q) 4 (lw_Z below #[Value.ref b] s) nc1 ns1 (kw cy a rw S1 ++ mw cy a2 M1) [(3, .int (nI (6 * k))), (2, .ref (a2 0)), (1, .ref (a 0)), (0, .ref b)] 1091 []) : Z p l e room_1 s m #[Value.ref b] below meth c D (fun q => s.heap.size ≤ q) 4 (lw_Z below #[Value.ref b] s) nc ns (kw cy a rw S ++ mw cy a2 M) [(3, .int (nI (6 * k))), (2, .ref (a2 0)), (1, .ref (a 0)), (0, .ref b)] 293 [] := by
  refine z_aload_n B0 dL_law_293 rfl rfl ?_
  refine z_aload_n B0 dL_law_294 rfl rfl ?_
  refine z_iload_n B0 dL_law_295 rfl rfl ?_
  refine z_iconst (v := 1) B0 dL_law_296 (by decide) ?_
  refine z_iadd (v := nI (6 * k + 1)) B0 dL_law_297 (nI_add (6 * k) 1) ?_
  refine y_sld (j := 6 * k + 1) (v := xs (6 * k + 1)) B0 hX hbl (zx_n (by omega) (Nat.lt_of_le_of_lt hL (by decide))) rfl dL_law_298 ?_
  refine z_aload_n B0 dL_law_299 rfl rfl ?_
  refine z_iload_n B0 dL_law_300 rfl rfl ?_
  refine z_iconst (v := 2) B0 dL_law_301 (by decide) ?_
  refine z_iadd (v := nI (6 * k + 2)) B0 dL_law_302 (nI_add (6 * k) 2) ?_
  refine y_sld (j := 6 * k + 2) (v := xs (6 * k + 2)) B0 hX hbl (zx_n (by omega) (Nat.lt_of_le_of_lt hL (by decide))) rfl dL_law_303 ?_
  refine z_callL B0 (z_runV (q0 := 0) (As := [.int (xs (6 * k + 1)), .int (xs (6 * k + 2))]) (st := []) B0 (k_X11_owner (a := a) hrw S (xs (6 * k + 1)) (xs (6 * k + 2)) _ (j_owner hJ (xs (6 * k + 1)) (xs (6 * k + 2)))) cf_X11_owner (kw_0 cy a rw S) rfl wm_L_28 wi_X11_owner ws_X11_owner dL_law_304 rfl (Nat.le_of_ble_eq_true rfl) ⟨by decide, by decide, by omega, by omega⟩) (fun r1 S1 h1 => ?_)
  refine z_pop B0 dL_law_307 rfl ?_
  refine z_aload_n B0 dL_law_308 rfl rfl ?_
  refine z_aload_n B0 dL_law_309 rfl rfl ?_
  refine z_iload_n B0 dL_law_310 rfl rfl ?_
  refine z_iconst (v := 1) B0 dL_law_311 (by decide) ?_
  refine z_iadd (v := nI (6 * k + 1)) B0 dL_law_312 (nI_add (6 * k) 1) ?_
  refine y_sld (j := 6 * k + 1) (v := xs (6 * k + 1)) B0 hX hbl (zx_n (by omega) (Nat.lt_of_le_of_lt hL (by decide))) rfl dL_law_313 ?_
  refine z_aload_n B0 dL_law_314 rfl rfl ?_
  refine z_iload_n B0 dL_law_315 rfl rfl ?_
  refine z_iconst (v := 2) B0 dL_law_316 (by decide) ?_
  refine z_iadd (v := nI (6 * k + 2)) B0 dL_law_317 (nI_add (6 * k) 2) ?_
  refine y_sld (j := 6 * k + 2) (v := xs (6 * k + 2)) B0 hX hbl (zx_n (by omega) (Nat.lt_of_le_of_lt hL (by decide))) rfl dL_law_318 ?_
  refine z_callL B0 (z_runV (q0 := 0) (As := [.int (xs (6 * k + 1)), .int (xs (6 * k + 2))]) (st := []) B0 (k_X12_owner (a := a2) M (xs (6 * k + 1)) (xs (6 * k + 2)) _ h1) cf_X12_owner (mw_0 cy a2 M) rfl wm_L_31 wi_X12_owner ws_X12_owner dL_law_319 rfl (Nat.le_of_ble_eq_true rfl) ⟨by decide, by decide, by omega, by omega⟩) (fun r2 M1 h2 => ?_)
  refine z_pop B0 dL_law_322 rfl ?_
  refine z_goto (tgt := 1091) B0 dL_law_323 (by decide) ?_
  have h3 : (fi S1.1 0).toInt ≤ (fi S.1 0).toInt + 20 := h2.2.2
  exact fin S1 M1 _ _ h2.2.1 (by omega) (by omega)
set_option maxHeartbeats 4000000 in
set_option maxRecDepth 100000 in
theorem lo_day {p : Program} {l : Launch} {e : Env} {s : State} {m : MethodId} {below : List Frame} {meth : Method} {c : Code} {D : va_G} {cy : Nat → ClassId} {tB tE b : Nat} {a a2 : Nat → Nat} {rw : Nat → Option Nat} {xs : Nat → Int32} {L k nc ns : Nat} {S : KS} {M : GS} (B0 : Bz p room_1 s m #[Value.ref b] meth c D cy s.heap.size tB tE (fun q => s.heap.size ≤ q) 4 cL_law RL meth.sig.returnType meth.name 2048 84000 600000 7302250) (hX : va_X b L xs s s.heap) (hbl : b < s.heap.size) (hrw : ∀ i, i < 6 → rw i = some (a (12 + 2 * i))) (hL : L ≤ 3072) (hk : 6 * k + 6 ≤ L) (hm : nc ≤ 300000 ∧ ns ≤ 5000000) (hJ : JI cy tE S M) (fin : ∀ (S1 : KS) (M1 : GS) (nc1 ns1 : Nat), JI cy tE S1 M1 → nc1 ≤ nc + 259 → ns1 + 77 * (fi S1.1 0).toInt.toNat ≤ ns + 77 * (fi S.1 0).toInt.toNat + 2688 → Z p l e room_1 s m #[Value.ref b] below meth c D (fun q => s.heap.size ≤ q) 4 (lw_Z below #[Value.ref b] s) nc1 ns1 (kw cy a rw S1 ++ mw cy a2 M1) [(3, .int (nI (6 * k))), (2, .ref (a2 0)), (1, .ref (a 0)), (0, .ref b)] 1091 []) : Z p l e room_1 s m #[Value.ref b] below meth c D (fun q => s.heap.size ≤ q) 4 (lw_Z below #[Value.ref b] s) nc ns (kw cy a rw S ++ mw cy a2 M) [(3, .int (nI (6 * k))), (2, .ref (a2 0)), (1, .ref (a 0)), (0, .ref b)] 326 [] := by
  refine z_aload_n B0 dL_law_326 rfl rfl ?_
  refine z_aload_n B0 dL_law_327 rfl rfl ?_
  refine z_iload_n B0 dL_law_328 rfl rfl ?_
  refine z_iconst (v := 1) B0 dL_law_329 (by decide) ?_
  refine z_iadd (v := nI (6 * k + 1)) B0 dL_law_330 (nI_add (6 * k) 1) ?_
  refine y_sld (j := 6 * k + 1) (v := xs (6 * k + 1)) B0 hX hbl (zx_n (by omega) (Nat.lt_of_le_of_lt hL (by decide))) rfl dL_law_331 ?_
  refine z_callL B0 (z_runV (q0 := 0) (As := [.int (xs (6 * k + 1))]) (st := []) B0 (k_X11_day (a := a) hrw S (xs (6 * k + 1)) _ (j_day hJ (xs (6 * k + 1)))) cf_X11_day (kw_0 cy a rw S) rfl wm_L_32 wi_X11_day ws_X11_day dL_law_332 rfl (Nat.le_of_ble_eq_true rfl) ⟨by decide, by decide, by omega, by omega⟩) (fun r1 S1 h1 => ?_)
  refine z_pop B0 dL_law_335 rfl ?_
  refine z_aload_n B0 dL_law_336 rfl rfl ?_
  refine z_aload_n B0 dL_law_337 rfl rfl ?_
  refine z_iload_n B0 dL_law_338 rfl rfl ?_
  refine z_iconst (v := 1) B0 dL_law_339 (by decide) ?_
  refine z_iadd (v := nI (6 * k + 1)) B0 dL_law_340 (nI_add (6 * k) 1) ?_
  refine y_sld (j := 6 * k + 1) (v := xs (6 * k + 1)) B0 hX hbl (zx_n (by omega) (Nat.lt_of_le_of_lt hL (by decide))) rfl dL_law_341 ?_
  refine z_callL B0 (z_runV (q0 := 0) (As := [.int (xs (6 * k + 1))]) (st := []) B0 (k_X12_day (a := a2) M (xs (6 * k + 1)) _ h1) cf_X12_day (mw_0 cy a2 M) rfl wm_L_36 wi_X12_day ws_X12_day dL_law_342 rfl (Nat.le_of_ble_eq_true rfl) ⟨by decide, by decide, by omega, by omega⟩) (fun r2 M1 h2 => ?_)
  refine z_pop B0 dL_law_345 rfl ?_
  refine z_goto (tgt := 1091) B0 dL_law_346 (by decide) ?_
  have h3 : (fi S1.1 0).toInt ≤ (fi S.1 0).toInt + 20 := h2.2.2
  exact fin S1 M1 _ _ h2.2.1 (by omega) (by omega)
set_option maxHeartbeats 4000000 in
set_option maxRecDepth 100000 in
theorem lo_feed {p : Program} {l : Launch} {e : Env} {s : State} {m : MethodId} {below : List Frame} {meth : Method} {c : Code} {D : va_G} {cy : Nat → ClassId} {tB tE b : Nat} {a a2 : Nat → Nat} {rw : Nat → Option Nat} {xs : Nat → Int32} {L k nc ns : Nat} {S : KS} {M : GS} (B0 : Bz p room_1 s m #[Value.ref b] meth c D cy s.heap.size tB tE (fun q => s.heap.size ≤ q) 4 cL_law RL meth.sig.returnType meth.name 2048 84000 600000 7302250) (hX : va_X b L xs s s.heap) (hbl : b < s.heap.size) (hrw : ∀ i, i < 6 → rw i = some (a (12 + 2 * i))) (hL : L ≤ 3072) (hk : 6 * k + 6 ≤ L) (hm : nc ≤ 300000 ∧ ns ≤ 5000000) (hJ : JI cy tE S M) (fin : ∀ (S1 : KS) (M1 : GS) (nc1 ns1 : Nat), JI cy tE S1 M1 → nc1 ≤ nc + 259 → ns1 + 77 * (fi S1.1 0).toInt.toNat ≤ ns + 77 * (fi S.1 0).toInt.toNat + 2688 → Z p l e room_1 s m #[Value.ref b] below meth c D (fun q => s.heap.size ≤ q) 4 (lw_Z below #[Value.ref b] s) nc1 ns1 (kw cy a rw S1 ++ mw cy a2 M1) [(3, .int (nI (6 * k))), (2, .ref (a2 0)), (1, .ref (a 0)), (0, .ref b)] 1091 []) : Z p l e room_1 s m #[Value.ref b] below meth c D (fun q => s.heap.size ≤ q) 4 (lw_Z below #[Value.ref b] s) nc ns (kw cy a rw S ++ mw cy a2 M) [(3, .int (nI (6 * k))), (2, .ref (a2 0)), (1, .ref (a 0)), (0, .ref b)] 349 [] := by
  refine z_aload_n B0 dL_law_349 rfl rfl ?_
  refine z_aload_n B0 dL_law_350 rfl rfl ?_
  refine z_iload_n B0 dL_law_351 rfl rfl ?_
  refine z_iconst (v := 1) B0 dL_law_352 (by decide) ?_
  refine z_iadd (v := nI (6 * k + 1)) B0 dL_law_353 (nI_add (6 * k) 1) ?_
  refine y_sld (j := 6 * k + 1) (v := xs (6 * k + 1)) B0 hX hbl (zx_n (by omega) (Nat.lt_of_le_of_lt hL (by decide))) rfl dL_law_354 ?_
  refine z_aload_n B0 dL_law_355 rfl rfl ?_
  refine z_iload_n B0 dL_law_356 rfl rfl ?_
  refine z_iconst (v := 2) B0 dL_law_357 (by decide) ?_
  refine z_iadd (v := nI (6 * k + 2)) B0 dL_law_358 (nI_add (6 * k) 2) ?_
  refine y_sld (j := 6 * k + 2) (v := xs (6 * k + 2)) B0 hX hbl (zx_n (by omega) (Nat.lt_of_le_of_lt hL (by decide))) rfl dL_law_359 ?_
  refine z_aload_n B0 dL_law_360 rfl rfl ?_
  refine z_iload_n B0 dL_law_361 rfl rfl ?_
  refine z_iconst (v := 3) B0 dL_law_362 (by decide) ?_
  refine z_iadd (v := nI (6 * k + 3)) B0 dL_law_363 (nI_add (6 * k) 3) ?_
  refine y_sld (j := 6 * k + 3) (v := xs (6 * k + 3)) B0 hX hbl (zx_n (by omega) (Nat.lt_of_le_of_lt hL (by decide))) rfl dL_law_364 ?_
  refine z_aload_n B0 dL_law_365 rfl rfl ?_
  refine z_iload_n B0 dL_law_366 rfl rfl ?_
  refine z_iconst (v := 4) B0 dL_law_367 (by decide) ?_
  refine z_iadd (v := nI (6 * k + 4)) B0 dL_law_368 (nI_add (6 * k) 4) ?_
  refine y_sld (j := 6 * k + 4) (v := xs (6 * k + 4)) B0 hX hbl (zx_n (by omega) (Nat.lt_of_le_of_lt hL (by decide))) rfl dL_law_369 ?_
  refine z_aload_n B0 dL_law_370 rfl rfl ?_
  refine z_iload_n B0 dL_law_371 rfl rfl ?_
  refine z_iconst (v := 5) B0 dL_law_372 (by decide) ?_
  refine z_iadd (v := nI (6 * k + 5)) B0 dL_law_373 (nI_add (6 * k) 5) ?_
  refine y_sld (j := 6 * k + 5) (v := xs (6 * k + 5)) B0 hX hbl (zx_n (by omega) (Nat.lt_of_le_of_lt hL (by decide))) rfl dL_law_374 ?_
  refine z_callL B0 (z_runV (q0 := 0) (As := [.int (xs (6 * k + 1)), .int (xs (6 * k + 2)), .int (xs (6 * k + 3)), .int (xs (6 * k + 4)), .int (xs (6 * k + 5))]) (st := []) B0 (k_X11_feed (a := a) hrw S (xs (6 * k + 1)) (xs (6 * k + 2)) (xs (6 * k + 3)) (xs (6 * k + 4)) (xs (6 * k + 5)) _ (j_feed hJ (xs (6 * k + 1)) (xs (6 * k + 2)) (xs (6 * k + 3)) (xs (6 * k + 4)) (xs (6 * k + 5)))) cf_X11_feed (kw_0 cy a rw S) rfl wm_L_37 wi_X11_feed ws_X11_feed dL_law_375 rfl (Nat.le_of_ble_eq_true rfl) ⟨by decide, by decide, by omega, by omega⟩) (fun r1 S1 h1 => ?_)
  refine z_pop B0 dL_law_378 rfl ?_
  refine z_aload_n B0 dL_law_379 rfl rfl ?_
  refine z_aload_n B0 dL_law_380 rfl rfl ?_
  refine z_iload_n B0 dL_law_381 rfl rfl ?_
  refine z_iconst (v := 1) B0 dL_law_382 (by decide) ?_
  refine z_iadd (v := nI (6 * k + 1)) B0 dL_law_383 (nI_add (6 * k) 1) ?_
  refine y_sld (j := 6 * k + 1) (v := xs (6 * k + 1)) B0 hX hbl (zx_n (by omega) (Nat.lt_of_le_of_lt hL (by decide))) rfl dL_law_384 ?_
  refine z_aload_n B0 dL_law_385 rfl rfl ?_
  refine z_iload_n B0 dL_law_386 rfl rfl ?_
  refine z_iconst (v := 2) B0 dL_law_387 (by decide) ?_
  refine z_iadd (v := nI (6 * k + 2)) B0 dL_law_388 (nI_add (6 * k) 2) ?_
  refine y_sld (j := 6 * k + 2) (v := xs (6 * k + 2)) B0 hX hbl (zx_n (by omega) (Nat.lt_of_le_of_lt hL (by decide))) rfl dL_law_389 ?_
  refine z_aload_n B0 dL_law_390 rfl rfl ?_
  refine z_iload_n B0 dL_law_391 rfl rfl ?_
  refine z_iconst (v := 3) B0 dL_law_392 (by decide) ?_
  refine z_iadd (v := nI (6 * k + 3)) B0 dL_law_393 (nI_add (6 * k) 3) ?_
  refine y_sld (j := 6 * k + 3) (v := xs (6 * k + 3)) B0 hX hbl (zx_n (by omega) (Nat.lt_of_le_of_lt hL (by decide))) rfl dL_law_394 ?_
  refine z_aload_n B0 dL_law_395 rfl rfl ?_
  refine z_iload_n B0 dL_law_396 rfl rfl ?_
  refine z_iconst (v := 4) B0 dL_law_397 (by decide) ?_
  refine z_iadd (v := nI (6 * k + 4)) B0 dL_law_398 (nI_add (6 * k) 4) ?_
  refine y_sld (j := 6 * k + 4) (v := xs (6 * k + 4)) B0 hX hbl (zx_n (by omega) (Nat.lt_of_le_of_lt hL (by decide))) rfl dL_law_399 ?_
  refine z_aload_n B0 dL_law_400 rfl rfl ?_
  refine z_iload_n B0 dL_law_401 rfl rfl ?_
  refine z_iconst (v := 5) B0 dL_law_402 (by decide) ?_
  refine z_iadd (v := nI (6 * k + 5)) B0 dL_law_403 (nI_add (6 * k) 5) ?_
  refine y_sld (j := 6 * k + 5) (v := xs (6 * k + 5)) B0 hX hbl (zx_n (by omega) (Nat.lt_of_le_of_lt hL (by decide))) rfl dL_law_404 ?_
  refine z_callL B0 (z_runV (q0 := 0) (As := [.int (xs (6 * k + 1)), .int (xs (6 * k + 2)), .int (xs (6 * k + 3)), .int (xs (6 * k + 4)), .int (xs (6 * k + 5))]) (st := []) B0 (k_X12_feed (a := a2) M (xs (6 * k + 1)) (xs (6 * k + 2)) (xs (6 * k + 3)) (xs (6 * k + 4)) (xs (6 * k + 5)) _ h1) cf_X12_feed (mw_0 cy a2 M) rfl wm_L_41 wi_X12_feed ws_X12_feed dL_law_405 rfl (Nat.le_of_ble_eq_true rfl) ⟨by decide, by decide, by omega, by omega⟩) (fun r2 M1 h2 => ?_)
  refine z_pop B0 dL_law_408 rfl ?_
  refine z_goto (tgt := 1091) B0 dL_law_409 (by decide) ?_
  have h3 : (fi S1.1 0).toInt ≤ (fi S.1 0).toInt + 20 := h2.2.2
  exact fin S1 M1 _ _ h2.2.1 (by omega) (by omega)
set_option maxHeartbeats 4000000 in
set_option maxRecDepth 100000 in
theorem lo_end {p : Program} {l : Launch} {e : Env} {s : State} {m : MethodId} {below : List Frame} {meth : Method} {c : Code} {D : va_G} {cy : Nat → ClassId} {tB tE b : Nat} {a a2 : Nat → Nat} {rw : Nat → Option Nat} {xs : Nat → Int32} {L k nc ns : Nat} {S : KS} {M : GS} (B0 : Bz p room_1 s m #[Value.ref b] meth c D cy s.heap.size tB tE (fun q => s.heap.size ≤ q) 4 cL_law RL meth.sig.returnType meth.name 2048 84000 600000 7302250) (hX : va_X b L xs s s.heap) (hbl : b < s.heap.size) (hrw : ∀ i, i < 6 → rw i = some (a (12 + 2 * i))) (hL : L ≤ 3072) (hk : 6 * k + 6 ≤ L) (hm : nc ≤ 300000 ∧ ns ≤ 5000000) (hJ : JI cy tE S M) (fin : ∀ (S1 : KS) (M1 : GS) (nc1 ns1 : Nat), JI cy tE S1 M1 → nc1 ≤ nc + 259 → ns1 + 77 * (fi S1.1 0).toInt.toNat ≤ ns + 77 * (fi S.1 0).toInt.toNat + 2688 → Z p l e room_1 s m #[Value.ref b] below meth c D (fun q => s.heap.size ≤ q) 4 (lw_Z below #[Value.ref b] s) nc1 ns1 (kw cy a rw S1 ++ mw cy a2 M1) [(3, .int (nI (6 * k))), (2, .ref (a2 0)), (1, .ref (a 0)), (0, .ref b)] 1091 []) : Z p l e room_1 s m #[Value.ref b] below meth c D (fun q => s.heap.size ≤ q) 4 (lw_Z below #[Value.ref b] s) nc ns (kw cy a rw S ++ mw cy a2 M) [(3, .int (nI (6 * k))), (2, .ref (a2 0)), (1, .ref (a 0)), (0, .ref b)] 412 [] := by
  refine z_aload_n B0 dL_law_412 rfl rfl ?_
  refine z_aload_n B0 dL_law_413 rfl rfl ?_
  refine z_iload_n B0 dL_law_414 rfl rfl ?_
  refine z_iconst (v := 1) B0 dL_law_415 (by decide) ?_
  refine z_iadd (v := nI (6 * k + 1)) B0 dL_law_416 (nI_add (6 * k) 1) ?_
  refine y_sld (j := 6 * k + 1) (v := xs (6 * k + 1)) B0 hX hbl (zx_n (by omega) (Nat.lt_of_le_of_lt hL (by decide))) rfl dL_law_417 ?_
  refine z_callL B0 (z_runV (q0 := 0) (As := [.int (xs (6 * k + 1))]) (st := []) B0 (k_X11_end (a := a) hrw S (xs (6 * k + 1)) _ (j_end hJ (xs (6 * k + 1)))) cf_X11_end (kw_0 cy a rw S) rfl wm_L_42 wi_X11_end ws_X11_end dL_law_418 rfl (Nat.le_of_ble_eq_true rfl) ⟨by decide, by decide, by omega, by omega⟩) (fun r1 S1 h1 => ?_)
  refine z_pop B0 dL_law_421 rfl ?_
  refine z_aload_n B0 dL_law_422 rfl rfl ?_
  refine z_aload_n B0 dL_law_423 rfl rfl ?_
  refine z_iload_n B0 dL_law_424 rfl rfl ?_
  refine z_iconst (v := 1) B0 dL_law_425 (by decide) ?_
  refine z_iadd (v := nI (6 * k + 1)) B0 dL_law_426 (nI_add (6 * k) 1) ?_
  refine y_sld (j := 6 * k + 1) (v := xs (6 * k + 1)) B0 hX hbl (zx_n (by omega) (Nat.lt_of_le_of_lt hL (by decide))) rfl dL_law_427 ?_
  refine z_callL B0 (z_runV (q0 := 0) (As := [.int (xs (6 * k + 1))]) (st := []) B0 (k_X12_end (a := a2) M (xs (6 * k + 1)) _ h1) cf_X12_end (mw_0 cy a2 M) rfl wm_L_45 wi_X12_end ws_X12_end dL_law_428 rfl (Nat.le_of_ble_eq_true rfl) ⟨by decide, by decide, by omega, by omega⟩) (fun r2 M1 h2 => ?_)
  refine z_pop B0 dL_law_431 rfl ?_
  refine z_goto (tgt := 1091) B0 dL_law_432 (by decide) ?_
  have h3 : (fi S1.1 0).toInt ≤ (fi S.1 0).toInt + 20 := h2.2.2
  exact fin S1 M1 _ _ h2.2.1 (by omega) (by omega)
set_option maxHeartbeats 4000000 in
set_option maxRecDepth 100000 in
theorem lo_statute {p : Program} {l : Launch} {e : Env} {s : State} {m : MethodId} {below : List Frame} {meth : Method} {c : Code} {D : va_G} {cy : Nat → ClassId} {tB tE b : Nat} {a a2 : Nat → Nat} {rw : Nat → Option Nat} {xs : Nat → Int32} {L k nc ns : Nat} {S : KS} {M : GS} (B0 : Bz p room_1 s m #[Value.ref b] meth c D cy s.heap.size tB tE (fun q => s.heap.size ≤ q) 4 cL_law RL meth.sig.returnType meth.name 2048 84000 600000 7302250) (hX : va_X b L xs s s.heap) (hbl : b < s.heap.size) (hrw : ∀ i, i < 6 → rw i = some (a (12 + 2 * i))) (hL : L ≤ 3072) (hk : 6 * k + 6 ≤ L) (hm : nc ≤ 300000 ∧ ns ≤ 5000000) (hJ : JI cy tE S M) (fin : ∀ (S1 : KS) (M1 : GS) (nc1 ns1 : Nat), JI cy tE S1 M1 → nc1 ≤ nc + 259 → ns1 + 77 * (fi S1.1 0).toInt.toNat ≤ ns + 77 * (fi S.1 0).toInt.toNat + 2688 → Z p l e room_1 s m #[Value.ref b] below meth c D (fun q => s.heap.size ≤ q) 4 (lw_Z below #[Value.ref b] s) nc1 ns1 (kw cy a rw S1 ++ mw cy a2 M1) [(3, .int (nI (6 * k))), (2, .ref (a2 0)), (1, .ref (a 0)), (0, .ref b)] 1091 []) : Z p l e room_1 s m #[Value.ref b] below meth c D (fun q => s.heap.size ≤ q) 4 (lw_Z below #[Value.ref b] s) nc ns (kw cy a rw S ++ mw cy a2 M) [(3, .int (nI (6 * k))), (2, .ref (a2 0)), (1, .ref (a 0)), (0, .ref b)] 435 [] := by
  have ht := hJ.1.2.2.1
  refine z_aload_n B0 dL_law_435 rfl rfl ?_
  refine z_aload_n B0 dL_law_436 rfl rfl ?_
  refine z_iload_n B0 dL_law_437 rfl rfl ?_
  refine z_iconst (v := 1) B0 dL_law_438 (by decide) ?_
  refine z_iadd (v := nI (6 * k + 1)) B0 dL_law_439 (nI_add (6 * k) 1) ?_
  refine y_sld (j := 6 * k + 1) (v := xs (6 * k + 1)) B0 hX hbl (zx_n (by omega) (Nat.lt_of_le_of_lt hL (by decide))) rfl dL_law_440 ?_
  refine z_callL B0 (z_runV (q0 := 0) (As := [.int (xs (6 * k + 1))]) (st := []) B0 (k_X11_statute (a := a) hrw S (xs (6 * k + 1)) _ (j_statute hJ (xs (6 * k + 1)))) cf_X11_statute (kw_0 cy a rw S) rfl wm_L_46 wi_X11_statute ws_X11_statute dL_law_441 rfl (Nat.le_of_ble_eq_true rfl) ⟨by decide, by decide, by omega, by omega⟩) (fun r1 S1 h1 => ?_)
  refine z_pop B0 dL_law_444 rfl ?_
  refine z_aload_n B0 dL_law_445 rfl rfl ?_
  refine z_aload_n B0 dL_law_446 rfl rfl ?_
  refine z_iload_n B0 dL_law_447 rfl rfl ?_
  refine z_iconst (v := 1) B0 dL_law_448 (by decide) ?_
  refine z_iadd (v := nI (6 * k + 1)) B0 dL_law_449 (nI_add (6 * k) 1) ?_
  refine y_sld (j := 6 * k + 1) (v := xs (6 * k + 1)) B0 hX hbl (zx_n (by omega) (Nat.lt_of_le_of_lt hL (by decide))) rfl dL_law_450 ?_
  refine z_callL B0 (z_runV (q0 := 0) (As := [.int (xs (6 * k + 1))]) (st := []) B0 (k_X12_statute (a := a2) M (xs (6 * k + 1)) _ h1) cf_X12_statute (mw_0 cy a2 M) rfl wm_L_50 wi_X12_statute ws_X12_statute dL_law_451 rfl (Nat.le_of_ble_eq_true rfl) ⟨by decide, by decide, by omega, by omega⟩) (fun r2 M1 h2 => ?_)
  refine z_pop B0 dL_law_454 rfl ?_
  refine z_goto (tgt := 1091) B0 dL_law_455 (by decide) ?_
  have h3 : (fi S1.1 0).toInt = 0 := by rw [h2.2.2]; decide
  exact fin S1 M1 _ _ h2.2.1 (by omega) (by omega)
set_option maxHeartbeats 4000000 in
set_option maxRecDepth 100000 in
theorem lo_never {p : Program} {l : Launch} {e : Env} {s : State} {m : MethodId} {below : List Frame} {meth : Method} {c : Code} {D : va_G} {cy : Nat → ClassId} {tB tE b : Nat} {a a2 : Nat → Nat} {rw : Nat → Option Nat} {xs : Nat → Int32} {L k nc ns : Nat} {S : KS} {M : GS} (B0 : Bz p room_1 s m #[Value.ref b] meth c D cy s.heap.size tB tE (fun q => s.heap.size ≤ q) 4 cL_law RL meth.sig.returnType meth.name 2048 84000 600000 7302250) (hX : va_X b L xs s s.heap) (hbl : b < s.heap.size) (hrw : ∀ i, i < 6 → rw i = some (a (12 + 2 * i))) (hL : L ≤ 3072) (hk : 6 * k + 6 ≤ L) (hm : nc ≤ 300000 ∧ ns ≤ 5000000) (hJ : JI cy tE S M) (fin : ∀ (S1 : KS) (M1 : GS) (nc1 ns1 : Nat), JI cy tE S1 M1 → nc1 ≤ nc + 259 → ns1 + 77 * (fi S1.1 0).toInt.toNat ≤ ns + 77 * (fi S.1 0).toInt.toNat + 2688 → Z p l e room_1 s m #[Value.ref b] below meth c D (fun q => s.heap.size ≤ q) 4 (lw_Z below #[Value.ref b] s) nc1 ns1 (kw cy a rw S1 ++ mw cy a2 M1) [(3, .int (nI (6 * k))), (2, .ref (a2 0)), (1, .ref (a 0)), (0, .ref b)] 1091 []) : Z p l e room_1 s m #[Value.ref b] below meth c D (fun q => s.heap.size ≤ q) 4 (lw_Z below #[Value.ref b] s) nc ns (kw cy a rw S ++ mw cy a2 M) [(3, .int (nI (6 * k))), (2, .ref (a2 0)), (1, .ref (a 0)), (0, .ref b)] 458 [] := by
  have ht := hJ.1.2.2.1
  refine z_aload_n B0 dL_law_458 rfl rfl ?_
  refine z_callL B0 (z_runV (q0 := 0) (As := []) (st := []) B0 (k_X11_never (a := a) hrw S  _ (j_never hJ )) cf_X11_never (kw_0 cy a rw S) rfl wm_L_51 wi_X11_never ws_X11_never dL_law_459 rfl (Nat.le_of_ble_eq_true rfl) ⟨by decide, by decide, by omega, by omega⟩) (fun r1 S1 h1 => ?_)
  refine z_pop B0 dL_law_462 rfl ?_
  refine z_aload_n B0 dL_law_463 rfl rfl ?_
  refine z_callL B0 (z_runV (q0 := 0) (As := []) (st := []) B0 (k_X12_never (a := a2) M  _ h1) cf_X12_never (mw_0 cy a2 M) rfl wm_L_55 wi_X12_never ws_X12_never dL_law_464 rfl (Nat.le_of_ble_eq_true rfl) ⟨by decide, by decide, by omega, by omega⟩) (fun r2 M1 h2 => ?_)
  refine z_pop B0 dL_law_467 rfl ?_
  refine z_goto (tgt := 1091) B0 dL_law_468 (by decide) ?_
  have h3 : (fi S1.1 0).toInt = 0 := by rw [h2.2.2]; decide
  exact fin S1 M1 _ _ h2.2.1 (by omega) (by omega)
set_option maxHeartbeats 4000000 in
set_option maxRecDepth 100000 in
theorem lo_cure {p : Program} {l : Launch} {e : Env} {s : State} {m : MethodId} {below : List Frame} {meth : Method} {c : Code} {D : va_G} {cy : Nat → ClassId} {tB tE b : Nat} {a a2 : Nat → Nat} {rw : Nat → Option Nat} {xs : Nat → Int32} {L k nc ns : Nat} {S : KS} {M : GS} (B0 : Bz p room_1 s m #[Value.ref b] meth c D cy s.heap.size tB tE (fun q => s.heap.size ≤ q) 4 cL_law RL meth.sig.returnType meth.name 2048 84000 600000 7302250) (hX : va_X b L xs s s.heap) (hbl : b < s.heap.size) (hrw : ∀ i, i < 6 → rw i = some (a (12 + 2 * i))) (hL : L ≤ 3072) (hk : 6 * k + 6 ≤ L) (hm : nc ≤ 300000 ∧ ns ≤ 5000000) (hJ : JI cy tE S M) (fin : ∀ (S1 : KS) (M1 : GS) (nc1 ns1 : Nat), JI cy tE S1 M1 → nc1 ≤ nc + 259 → ns1 + 77 * (fi S1.1 0).toInt.toNat ≤ ns + 77 * (fi S.1 0).toInt.toNat + 2688 → Z p l e room_1 s m #[Value.ref b] below meth c D (fun q => s.heap.size ≤ q) 4 (lw_Z below #[Value.ref b] s) nc1 ns1 (kw cy a rw S1 ++ mw cy a2 M1) [(3, .int (nI (6 * k))), (2, .ref (a2 0)), (1, .ref (a 0)), (0, .ref b)] 1091 []) : Z p l e room_1 s m #[Value.ref b] below meth c D (fun q => s.heap.size ≤ q) 4 (lw_Z below #[Value.ref b] s) nc ns (kw cy a rw S ++ mw cy a2 M) [(3, .int (nI (6 * k))), (2, .ref (a2 0)), (1, .ref (a 0)), (0, .ref b)] 471 [] := by
  have ht := hJ.1.2.2.1
  refine z_aload_n B0 dL_law_471 rfl rfl ?_
  refine z_aload_n B0 dL_law_472 rfl rfl ?_
  refine z_iload_n B0 dL_law_473 rfl rfl ?_
  refine z_iconst (v := 1) B0 dL_law_474 (by decide) ?_
  refine z_iadd (v := nI (6 * k + 1)) B0 dL_law_475 (nI_add (6 * k) 1) ?_
  refine y_sld (j := 6 * k + 1) (v := xs (6 * k + 1)) B0 hX hbl (zx_n (by omega) (Nat.lt_of_le_of_lt hL (by decide))) rfl dL_law_476 ?_
  refine z_callL B0 (z_runV (q0 := 0) (As := [.int (xs (6 * k + 1))]) (st := []) B0 (k_X11_cure (a := a) hrw S (xs (6 * k + 1)) _ (j_cure hJ (xs (6 * k + 1)))) cf_X11_cure (kw_0 cy a rw S) rfl wm_L_56 wi_X11_cure ws_X11_cure dL_law_477 rfl (Nat.le_of_ble_eq_true rfl) ⟨by decide, by decide, by omega, by omega⟩) (fun r1 S1 h1 => ?_)
  refine z_pop B0 dL_law_480 rfl ?_
  refine z_aload_n B0 dL_law_481 rfl rfl ?_
  refine z_aload_n B0 dL_law_482 rfl rfl ?_
  refine z_iload_n B0 dL_law_483 rfl rfl ?_
  refine z_iconst (v := 1) B0 dL_law_484 (by decide) ?_
  refine z_iadd (v := nI (6 * k + 1)) B0 dL_law_485 (nI_add (6 * k) 1) ?_
  refine y_sld (j := 6 * k + 1) (v := xs (6 * k + 1)) B0 hX hbl (zx_n (by omega) (Nat.lt_of_le_of_lt hL (by decide))) rfl dL_law_486 ?_
  refine z_callL B0 (z_runV (q0 := 0) (As := [.int (xs (6 * k + 1))]) (st := []) B0 (k_X12_cure (a := a2) M (xs (6 * k + 1)) _ h1) cf_X12_cure (mw_0 cy a2 M) rfl wm_L_59 wi_X12_cure ws_X12_cure dL_law_487 rfl (Nat.le_of_ble_eq_true rfl) ⟨by decide, by decide, by omega, by omega⟩) (fun r2 M1 h2 => ?_)
  refine z_pop B0 dL_law_490 rfl ?_
  refine z_goto (tgt := 1091) B0 dL_law_491 (by decide) ?_
  have h3 : (fi S1.1 0).toInt = 0 := by rw [h2.2.2]; decide
  exact fin S1 M1 _ _ h2.2.1 (by omega) (by omega)
set_option maxHeartbeats 4000000 in
set_option maxRecDepth 100000 in
theorem lo_fault {p : Program} {l : Launch} {e : Env} {s : State} {m : MethodId} {below : List Frame} {meth : Method} {c : Code} {D : va_G} {cy : Nat → ClassId} {tB tE b : Nat} {a a2 : Nat → Nat} {rw : Nat → Option Nat} {xs : Nat → Int32} {L k nc ns : Nat} {S : KS} {M : GS} (B0 : Bz p room_1 s m #[Value.ref b] meth c D cy s.heap.size tB tE (fun q => s.heap.size ≤ q) 4 cL_law RL meth.sig.returnType meth.name 2048 84000 600000 7302250) (hX : va_X b L xs s s.heap) (hbl : b < s.heap.size) (hrw : ∀ i, i < 6 → rw i = some (a (12 + 2 * i))) (hL : L ≤ 3072) (hk : 6 * k + 6 ≤ L) (hm : nc ≤ 300000 ∧ ns ≤ 5000000) (hJ : JI cy tE S M) (fin : ∀ (S1 : KS) (M1 : GS) (nc1 ns1 : Nat), JI cy tE S1 M1 → nc1 ≤ nc + 259 → ns1 + 77 * (fi S1.1 0).toInt.toNat ≤ ns + 77 * (fi S.1 0).toInt.toNat + 2688 → Z p l e room_1 s m #[Value.ref b] below meth c D (fun q => s.heap.size ≤ q) 4 (lw_Z below #[Value.ref b] s) nc1 ns1 (kw cy a rw S1 ++ mw cy a2 M1) [(3, .int (nI (6 * k))), (2, .ref (a2 0)), (1, .ref (a 0)), (0, .ref b)] 1091 []) : Z p l e room_1 s m #[Value.ref b] below meth c D (fun q => s.heap.size ≤ q) 4 (lw_Z below #[Value.ref b] s) nc ns (kw cy a rw S ++ mw cy a2 M) [(3, .int (nI (6 * k))), (2, .ref (a2 0)), (1, .ref (a 0)), (0, .ref b)] 494 [] := by
  refine z_aload_n B0 dL_law_494 rfl rfl ?_
  refine z_aload_n B0 dL_law_495 rfl rfl ?_
  refine z_iload_n B0 dL_law_496 rfl rfl ?_
  refine z_iconst (v := 1) B0 dL_law_497 (by decide) ?_
  refine z_iadd (v := nI (6 * k + 1)) B0 dL_law_498 (nI_add (6 * k) 1) ?_
  refine y_sld (j := 6 * k + 1) (v := xs (6 * k + 1)) B0 hX hbl (zx_n (by omega) (Nat.lt_of_le_of_lt hL (by decide))) rfl dL_law_499 ?_
  refine z_callL B0 (z_runV (q0 := 0) (As := [.int (xs (6 * k + 1))]) (st := []) B0 (k_X11_fault (a := a) hrw S (xs (6 * k + 1)) _ (j_fault hJ (xs (6 * k + 1)))) cf_X11_fault (kw_0 cy a rw S) rfl wm_L_60 wi_X11_fault ws_X11_fault dL_law_500 rfl (Nat.le_of_ble_eq_true rfl) ⟨by decide, by decide, by omega, by omega⟩) (fun r1 S1 h1 => ?_)
  refine z_pop B0 dL_law_503 rfl ?_
  refine z_aload_n B0 dL_law_504 rfl rfl ?_
  refine z_aload_n B0 dL_law_505 rfl rfl ?_
  refine z_iload_n B0 dL_law_506 rfl rfl ?_
  refine z_iconst (v := 1) B0 dL_law_507 (by decide) ?_
  refine z_iadd (v := nI (6 * k + 1)) B0 dL_law_508 (nI_add (6 * k) 1) ?_
  refine y_sld (j := 6 * k + 1) (v := xs (6 * k + 1)) B0 hX hbl (zx_n (by omega) (Nat.lt_of_le_of_lt hL (by decide))) rfl dL_law_509 ?_
  refine z_callL B0 (z_runV (q0 := 0) (As := [.int (xs (6 * k + 1))]) (st := []) B0 (k_X12_fault (a := a2) M (xs (6 * k + 1)) _ h1) cf_X12_fault (mw_0 cy a2 M) rfl wm_L_63 wi_X12_fault ws_X12_fault dL_law_510 rfl (Nat.le_of_ble_eq_true rfl) ⟨by decide, by decide, by omega, by omega⟩) (fun r2 M1 h2 => ?_)
  refine z_pop B0 dL_law_513 rfl ?_
  refine z_goto (tgt := 1091) B0 dL_law_514 (by decide) ?_
  have h3 : (fi S1.1 0).toInt ≤ (fi S.1 0).toInt + 20 := h2.2.2
  exact fin S1 M1 _ _ h2.2.1 (by omega) (by omega)
set_option maxHeartbeats 4000000 in
set_option maxRecDepth 100000 in
theorem lo_act {p : Program} {l : Launch} {e : Env} {s : State} {m : MethodId} {below : List Frame} {meth : Method} {c : Code} {D : va_G} {cy : Nat → ClassId} {tB tE b : Nat} {a a2 : Nat → Nat} {rw : Nat → Option Nat} {xs : Nat → Int32} {L k nc ns : Nat} {S : KS} {M : GS} (B0 : Bz p room_1 s m #[Value.ref b] meth c D cy s.heap.size tB tE (fun q => s.heap.size ≤ q) 4 cL_law RL meth.sig.returnType meth.name 2048 84000 600000 7302250) (hX : va_X b L xs s s.heap) (hbl : b < s.heap.size) (hrw : ∀ i, i < 6 → rw i = some (a (12 + 2 * i))) (hL : L ≤ 3072) (hk : 6 * k + 6 ≤ L) (hm : nc ≤ 300000 ∧ ns ≤ 5000000) (hJ : JI cy tE S M) (fin : ∀ (S1 : KS) (M1 : GS) (nc1 ns1 : Nat), JI cy tE S1 M1 → nc1 ≤ nc + 259 → ns1 + 77 * (fi S1.1 0).toInt.toNat ≤ ns + 77 * (fi S.1 0).toInt.toNat + 2688 → Z p l e room_1 s m #[Value.ref b] below meth c D (fun q => s.heap.size ≤ q) 4 (lw_Z below #[Value.ref b] s) nc1 ns1 (kw cy a rw S1 ++ mw cy a2 M1) [(3, .int (nI (6 * k))), (2, .ref (a2 0)), (1, .ref (a 0)), (0, .ref b)] 1091 []) : Z p l e room_1 s m #[Value.ref b] below meth c D (fun q => s.heap.size ≤ q) 4 (lw_Z below #[Value.ref b] s) nc ns (kw cy a rw S ++ mw cy a2 M) [(3, .int (nI (6 * k))), (2, .ref (a2 0)), (1, .ref (a 0)), (0, .ref b)] 517 [] := by
  refine z_aload_n B0 dL_law_517 rfl rfl ?_
  refine z_aload_n B0 dL_law_518 rfl rfl ?_
  refine z_iload_n B0 dL_law_519 rfl rfl ?_
  refine z_iconst (v := 1) B0 dL_law_520 (by decide) ?_
  refine z_iadd (v := nI (6 * k + 1)) B0 dL_law_521 (nI_add (6 * k) 1) ?_
  refine y_sld (j := 6 * k + 1) (v := xs (6 * k + 1)) B0 hX hbl (zx_n (by omega) (Nat.lt_of_le_of_lt hL (by decide))) rfl dL_law_522 ?_
  refine z_aload_n B0 dL_law_523 rfl rfl ?_
  refine z_iload_n B0 dL_law_524 rfl rfl ?_
  refine z_iconst (v := 2) B0 dL_law_525 (by decide) ?_
  refine z_iadd (v := nI (6 * k + 2)) B0 dL_law_526 (nI_add (6 * k) 2) ?_
  refine y_sld (j := 6 * k + 2) (v := xs (6 * k + 2)) B0 hX hbl (zx_n (by omega) (Nat.lt_of_le_of_lt hL (by decide))) rfl dL_law_527 ?_
  refine z_callL B0 (z_runV (q0 := 0) (As := [.int (xs (6 * k + 1)), .int (xs (6 * k + 2))]) (st := []) B0 (k_X11_act (a := a) hrw S (xs (6 * k + 1)) (xs (6 * k + 2)) _ (j_act hJ (xs (6 * k + 1)) (xs (6 * k + 2)))) cf_X11_act (kw_0 cy a rw S) rfl wm_L_64 wi_X11_act ws_X11_act dL_law_528 rfl (Nat.le_of_ble_eq_true rfl) ⟨by decide, by decide, by omega, by omega⟩) (fun r1 S1 h1 => ?_)
  refine z_pop B0 dL_law_531 rfl ?_
  refine z_aload_n B0 dL_law_532 rfl rfl ?_
  refine z_aload_n B0 dL_law_533 rfl rfl ?_
  refine z_iload_n B0 dL_law_534 rfl rfl ?_
  refine z_iconst (v := 1) B0 dL_law_535 (by decide) ?_
  refine z_iadd (v := nI (6 * k + 1)) B0 dL_law_536 (nI_add (6 * k) 1) ?_
  refine y_sld (j := 6 * k + 1) (v := xs (6 * k + 1)) B0 hX hbl (zx_n (by omega) (Nat.lt_of_le_of_lt hL (by decide))) rfl dL_law_537 ?_
  refine z_aload_n B0 dL_law_538 rfl rfl ?_
  refine z_iload_n B0 dL_law_539 rfl rfl ?_
  refine z_iconst (v := 2) B0 dL_law_540 (by decide) ?_
  refine z_iadd (v := nI (6 * k + 2)) B0 dL_law_541 (nI_add (6 * k) 2) ?_
  refine y_sld (j := 6 * k + 2) (v := xs (6 * k + 2)) B0 hX hbl (zx_n (by omega) (Nat.lt_of_le_of_lt hL (by decide))) rfl dL_law_542 ?_
  refine z_callL B0 (z_runV (q0 := 0) (As := [.int (xs (6 * k + 1)), .int (xs (6 * k + 2))]) (st := []) B0 (k_X12_act (a := a2) M (xs (6 * k + 1)) (xs (6 * k + 2)) _ h1) cf_X12_act (mw_0 cy a2 M) rfl wm_L_68 wi_X12_act ws_X12_act dL_law_543 rfl (Nat.le_of_ble_eq_true rfl) ⟨by decide, by decide, by omega, by omega⟩) (fun r2 M1 h2 => ?_)
  refine z_pop B0 dL_law_546 rfl ?_
  refine z_goto (tgt := 1091) B0 dL_law_547 (by decide) ?_
  have h3 : (fi S1.1 0).toInt ≤ (fi S.1 0).toInt + 20 := h2.2.2
  exact fin S1 M1 _ _ h2.2.1 (by omega) (by omega)
set_option maxHeartbeats 4000000 in
set_option maxRecDepth 100000 in
theorem lo_put {p : Program} {l : Launch} {e : Env} {s : State} {m : MethodId} {below : List Frame} {meth : Method} {c : Code} {D : va_G} {cy : Nat → ClassId} {tB tE b : Nat} {a a2 : Nat → Nat} {rw : Nat → Option Nat} {xs : Nat → Int32} {L k nc ns : Nat} {S : KS} {M : GS} (B0 : Bz p room_1 s m #[Value.ref b] meth c D cy s.heap.size tB tE (fun q => s.heap.size ≤ q) 4 cL_law RL meth.sig.returnType meth.name 2048 84000 600000 7302250) (hX : va_X b L xs s s.heap) (hbl : b < s.heap.size) (hrw : ∀ i, i < 6 → rw i = some (a (12 + 2 * i))) (hL : L ≤ 3072) (hk : 6 * k + 6 ≤ L) (hm : nc ≤ 300000 ∧ ns ≤ 5000000) (hJ : JI cy tE S M) (fin : ∀ (S1 : KS) (M1 : GS) (nc1 ns1 : Nat), JI cy tE S1 M1 → nc1 ≤ nc + 259 → ns1 + 77 * (fi S1.1 0).toInt.toNat ≤ ns + 77 * (fi S.1 0).toInt.toNat + 2688 → Z p l e room_1 s m #[Value.ref b] below meth c D (fun q => s.heap.size ≤ q) 4 (lw_Z below #[Value.ref b] s) nc1 ns1 (kw cy a rw S1 ++ mw cy a2 M1) [(3, .int (nI (6 * k))), (2, .ref (a2 0)), (1, .ref (a 0)), (0, .ref b)] 1091 []) : Z p l e room_1 s m #[Value.ref b] below meth c D (fun q => s.heap.size ≤ q) 4 (lw_Z below #[Value.ref b] s) nc ns (kw cy a rw S ++ mw cy a2 M) [(3, .int (nI (6 * k))), (2, .ref (a2 0)), (1, .ref (a 0)), (0, .ref b)] 550 [] := by
  refine z_aload_n B0 dL_law_550 rfl rfl ?_
  refine z_aload_n B0 dL_law_551 rfl rfl ?_
  refine z_iload_n B0 dL_law_552 rfl rfl ?_
  refine z_iconst (v := 1) B0 dL_law_553 (by decide) ?_
  refine z_iadd (v := nI (6 * k + 1)) B0 dL_law_554 (nI_add (6 * k) 1) ?_
  refine y_sld (j := 6 * k + 1) (v := xs (6 * k + 1)) B0 hX hbl (zx_n (by omega) (Nat.lt_of_le_of_lt hL (by decide))) rfl dL_law_555 ?_
  refine z_aload_n B0 dL_law_556 rfl rfl ?_
  refine z_iload_n B0 dL_law_557 rfl rfl ?_
  refine z_iconst (v := 2) B0 dL_law_558 (by decide) ?_
  refine z_iadd (v := nI (6 * k + 2)) B0 dL_law_559 (nI_add (6 * k) 2) ?_
  refine y_sld (j := 6 * k + 2) (v := xs (6 * k + 2)) B0 hX hbl (zx_n (by omega) (Nat.lt_of_le_of_lt hL (by decide))) rfl dL_law_560 ?_
  refine z_callL B0 (z_runV (q0 := 0) (As := [.int (xs (6 * k + 1)), .int (xs (6 * k + 2))]) (st := []) B0 (k_X11_put (a := a) hrw S (xs (6 * k + 1)) (xs (6 * k + 2)) _ (j_put hJ (xs (6 * k + 1)) (xs (6 * k + 2)))) cf_X11_put (kw_0 cy a rw S) rfl wm_L_69 wi_X11_put ws_X11_put dL_law_561 rfl (Nat.le_of_ble_eq_true rfl) ⟨by decide, by decide, by omega, by omega⟩) (fun r1 S1 h1 => ?_)
  refine z_pop B0 dL_law_564 rfl ?_
  refine z_aload_n B0 dL_law_565 rfl rfl ?_
  refine z_aload_n B0 dL_law_566 rfl rfl ?_
  refine z_iload_n B0 dL_law_567 rfl rfl ?_
  refine z_iconst (v := 1) B0 dL_law_568 (by decide) ?_
  refine z_iadd (v := nI (6 * k + 1)) B0 dL_law_569 (nI_add (6 * k) 1) ?_
  refine y_sld (j := 6 * k + 1) (v := xs (6 * k + 1)) B0 hX hbl (zx_n (by omega) (Nat.lt_of_le_of_lt hL (by decide))) rfl dL_law_570 ?_
  refine z_aload_n B0 dL_law_571 rfl rfl ?_
  refine z_iload_n B0 dL_law_572 rfl rfl ?_
  refine z_iconst (v := 2) B0 dL_law_573 (by decide) ?_
  refine z_iadd (v := nI (6 * k + 2)) B0 dL_law_574 (nI_add (6 * k) 2) ?_
  refine y_sld (j := 6 * k + 2) (v := xs (6 * k + 2)) B0 hX hbl (zx_n (by omega) (Nat.lt_of_le_of_lt hL (by decide))) rfl dL_law_575 ?_
  refine z_callL B0 (z_runV (q0 := 0) (As := [.int (xs (6 * k + 1)), .int (xs (6 * k + 2))]) (st := []) B0 (k_X12_put (a := a2) M (xs (6 * k + 1)) (xs (6 * k + 2)) _ h1) cf_X12_put (mw_0 cy a2 M) rfl wm_L_72 wi_X12_put ws_X12_put dL_law_576 rfl (Nat.le_of_ble_eq_true rfl) ⟨by decide, by decide, by omega, by omega⟩) (fun r2 M1 h2 => ?_)
  refine z_pop B0 dL_law_579 rfl ?_
  refine z_goto (tgt := 1091) B0 dL_law_580 (by decide) ?_
  have h3 : (fi S1.1 0).toInt ≤ (fi S.1 0).toInt + 20 := h2.2.2
  exact fin S1 M1 _ _ h2.2.1 (by omega) (by omega)
set_option maxHeartbeats 4000000 in
set_option maxRecDepth 100000 in
theorem lo_clear {p : Program} {l : Launch} {e : Env} {s : State} {m : MethodId} {below : List Frame} {meth : Method} {c : Code} {D : va_G} {cy : Nat → ClassId} {tB tE b : Nat} {a a2 : Nat → Nat} {rw : Nat → Option Nat} {xs : Nat → Int32} {L k nc ns : Nat} {S : KS} {M : GS} (B0 : Bz p room_1 s m #[Value.ref b] meth c D cy s.heap.size tB tE (fun q => s.heap.size ≤ q) 4 cL_law RL meth.sig.returnType meth.name 2048 84000 600000 7302250) (hX : va_X b L xs s s.heap) (hbl : b < s.heap.size) (hrw : ∀ i, i < 6 → rw i = some (a (12 + 2 * i))) (hL : L ≤ 3072) (hk : 6 * k + 6 ≤ L) (hm : nc ≤ 300000 ∧ ns ≤ 5000000) (hJ : JI cy tE S M) (fin : ∀ (S1 : KS) (M1 : GS) (nc1 ns1 : Nat), JI cy tE S1 M1 → nc1 ≤ nc + 259 → ns1 + 77 * (fi S1.1 0).toInt.toNat ≤ ns + 77 * (fi S.1 0).toInt.toNat + 2688 → Z p l e room_1 s m #[Value.ref b] below meth c D (fun q => s.heap.size ≤ q) 4 (lw_Z below #[Value.ref b] s) nc1 ns1 (kw cy a rw S1 ++ mw cy a2 M1) [(3, .int (nI (6 * k))), (2, .ref (a2 0)), (1, .ref (a 0)), (0, .ref b)] 1091 []) : Z p l e room_1 s m #[Value.ref b] below meth c D (fun q => s.heap.size ≤ q) 4 (lw_Z below #[Value.ref b] s) nc ns (kw cy a rw S ++ mw cy a2 M) [(3, .int (nI (6 * k))), (2, .ref (a2 0)), (1, .ref (a 0)), (0, .ref b)] 583 [] := by
  refine z_aload_n B0 dL_law_583 rfl rfl ?_
  refine z_aload_n B0 dL_law_584 rfl rfl ?_
  refine z_iload_n B0 dL_law_585 rfl rfl ?_
  refine z_iconst (v := 1) B0 dL_law_586 (by decide) ?_
  refine z_iadd (v := nI (6 * k + 1)) B0 dL_law_587 (nI_add (6 * k) 1) ?_
  refine y_sld (j := 6 * k + 1) (v := xs (6 * k + 1)) B0 hX hbl (zx_n (by omega) (Nat.lt_of_le_of_lt hL (by decide))) rfl dL_law_588 ?_
  refine z_callL B0 (z_runV (q0 := 0) (As := [.int (xs (6 * k + 1))]) (st := []) B0 (k_X11_clear (a := a) hrw S (xs (6 * k + 1)) _ (j_clear hJ (xs (6 * k + 1)))) cf_X11_clear (kw_0 cy a rw S) rfl wm_L_73 wi_X11_clear ws_X11_clear dL_law_589 rfl (Nat.le_of_ble_eq_true rfl) ⟨by decide, by decide, by omega, by omega⟩) (fun r1 S1 h1 => ?_)
  refine z_pop B0 dL_law_592 rfl ?_
  refine z_aload_n B0 dL_law_593 rfl rfl ?_
  refine z_aload_n B0 dL_law_594 rfl rfl ?_
  refine z_iload_n B0 dL_law_595 rfl rfl ?_
  refine z_iconst (v := 1) B0 dL_law_596 (by decide) ?_
  refine z_iadd (v := nI (6 * k + 1)) B0 dL_law_597 (nI_add (6 * k) 1) ?_
  refine y_sld (j := 6 * k + 1) (v := xs (6 * k + 1)) B0 hX hbl (zx_n (by omega) (Nat.lt_of_le_of_lt hL (by decide))) rfl dL_law_598 ?_
  refine z_callL B0 (z_runV (q0 := 0) (As := [.int (xs (6 * k + 1))]) (st := []) B0 (k_X12_clear (a := a2) M (xs (6 * k + 1)) _ h1) cf_X12_clear (mw_0 cy a2 M) rfl wm_L_76 wi_X12_clear ws_X12_clear dL_law_599 rfl (Nat.le_of_ble_eq_true rfl) ⟨by decide, by decide, by omega, by omega⟩) (fun r2 M1 h2 => ?_)
  refine z_pop B0 dL_law_602 rfl ?_
  refine z_goto (tgt := 1091) B0 dL_law_603 (by decide) ?_
  have h3 : (fi S1.1 0).toInt ≤ (fi S.1 0).toInt + 20 := h2.2.2
  exact fin S1 M1 _ _ h2.2.1 (by omega) (by omega)
set_option maxHeartbeats 4000000 in
set_option maxRecDepth 100000 in
theorem lo_honest {p : Program} {l : Launch} {e : Env} {s : State} {m : MethodId} {below : List Frame} {meth : Method} {c : Code} {D : va_G} {cy : Nat → ClassId} {tB tE b : Nat} {a a2 : Nat → Nat} {rw : Nat → Option Nat} {xs : Nat → Int32} {L k nc ns : Nat} {S : KS} {M : GS} (B0 : Bz p room_1 s m #[Value.ref b] meth c D cy s.heap.size tB tE (fun q => s.heap.size ≤ q) 4 cL_law RL meth.sig.returnType meth.name 2048 84000 600000 7302250) (hX : va_X b L xs s s.heap) (hbl : b < s.heap.size) (hrw : ∀ i, i < 6 → rw i = some (a (12 + 2 * i))) (hL : L ≤ 3072) (hk : 6 * k + 6 ≤ L) (hm : nc ≤ 300000 ∧ ns ≤ 5000000) (hJ : JI cy tE S M) (fin : ∀ (S1 : KS) (M1 : GS) (nc1 ns1 : Nat), JI cy tE S1 M1 → nc1 ≤ nc + 259 → ns1 + 77 * (fi S1.1 0).toInt.toNat ≤ ns + 77 * (fi S.1 0).toInt.toNat + 2688 → Z p l e room_1 s m #[Value.ref b] below meth c D (fun q => s.heap.size ≤ q) 4 (lw_Z below #[Value.ref b] s) nc1 ns1 (kw cy a rw S1 ++ mw cy a2 M1) [(3, .int (nI (6 * k))), (2, .ref (a2 0)), (1, .ref (a 0)), (0, .ref b)] 1091 []) : Z p l e room_1 s m #[Value.ref b] below meth c D (fun q => s.heap.size ≤ q) 4 (lw_Z below #[Value.ref b] s) nc ns (kw cy a rw S ++ mw cy a2 M) [(3, .int (nI (6 * k))), (2, .ref (a2 0)), (1, .ref (a 0)), (0, .ref b)] 606 [] := by
  by_cases hb : xs (6 * k + 2) = 0
  · refine z_aload_n B0 dL_law_606 rfl rfl ?_
    refine z_aload_n B0 dL_law_607 rfl rfl ?_
    refine z_iload_n B0 dL_law_608 rfl rfl ?_
    refine z_iconst (v := 1) B0 dL_law_609 (by decide) ?_
    refine z_iadd (v := nI (6 * k + 1)) B0 dL_law_610 (nI_add (6 * k) 1) ?_
    refine y_sld (j := 6 * k + 1) (v := xs (6 * k + 1)) B0 hX hbl (zx_n (by omega) (Nat.lt_of_le_of_lt hL (by decide))) rfl dL_law_611 ?_
    refine z_aload_n B0 dL_law_612 rfl rfl ?_
    refine z_iload_n B0 dL_law_613 rfl rfl ?_
    refine z_iconst (v := 2) B0 dL_law_614 (by decide) ?_
    refine z_iadd (v := nI (6 * k + 2)) B0 dL_law_615 (nI_add (6 * k) 2) ?_
    refine y_sld (j := 6 * k + 2) (v := xs (6 * k + 2)) B0 hX hbl (zx_n (by omega) (Nat.lt_of_le_of_lt hL (by decide))) rfl dL_law_616 ?_
    refine z_if_eq_t (tgt := 624) B0 dL_law_617 (by decide) hb ?_
    refine z_iconst (v := 0) B0 dL_law_624 (by decide) ?_
    refine z_callL B0 (z_runV (q0 := 0) (As := [.int (xs (6 * k + 1)), .int 0]) (st := []) B0 (k_X11_honest (a := a) hrw S (xs (6 * k + 1)) 0 _ (j_honest hJ (xs (6 * k + 1)) 0 (Or.inl rfl))) cf_X11_honest (kw_0 cy a rw S) rfl wm_L_77 wi_X11_honest ws_X11_honest dL_law_625 rfl (Nat.le_of_ble_eq_true rfl) ⟨by decide, by decide, by omega, by omega⟩) (fun r1 S1 h1 => ?_)
    refine z_pop B0 dL_law_628 rfl ?_
    refine z_aload_n B0 dL_law_629 rfl rfl ?_
    refine z_aload_n B0 dL_law_630 rfl rfl ?_
    refine z_iload_n B0 dL_law_631 rfl rfl ?_
    refine z_iconst (v := 1) B0 dL_law_632 (by decide) ?_
    refine z_iadd (v := nI (6 * k + 1)) B0 dL_law_633 (nI_add (6 * k) 1) ?_
    refine y_sld (j := 6 * k + 1) (v := xs (6 * k + 1)) B0 hX hbl (zx_n (by omega) (Nat.lt_of_le_of_lt hL (by decide))) rfl dL_law_634 ?_
    refine z_aload_n B0 dL_law_635 rfl rfl ?_
    refine z_iload_n B0 dL_law_636 rfl rfl ?_
    refine z_iconst (v := 2) B0 dL_law_637 (by decide) ?_
    refine z_iadd (v := nI (6 * k + 2)) B0 dL_law_638 (nI_add (6 * k) 2) ?_
    refine y_sld (j := 6 * k + 2) (v := xs (6 * k + 2)) B0 hX hbl (zx_n (by omega) (Nat.lt_of_le_of_lt hL (by decide))) rfl dL_law_639 ?_
    refine z_if_eq_t (tgt := 647) B0 dL_law_640 (by decide) hb ?_
    refine z_iconst (v := 0) B0 dL_law_647 (by decide) ?_
    refine z_callL B0 (z_runV (q0 := 0) (As := [.int (xs (6 * k + 1)), .int 0]) (st := []) B0 (k_X12_honest (a := a2) M (xs (6 * k + 1)) 0 _ h1) cf_X12_honest (mw_0 cy a2 M) rfl wm_L_81 wi_X12_honest ws_X12_honest dL_law_648 rfl (Nat.le_of_ble_eq_true rfl) ⟨by decide, by decide, by omega, by omega⟩) (fun r2 M1 h2 => ?_)
    refine z_pop B0 dL_law_651 rfl ?_
    refine z_goto (tgt := 1091) B0 dL_law_652 (by decide) ?_
    have h3 : (fi S1.1 0).toInt ≤ (fi S.1 0).toInt + 20 := h2.2.2
    exact fin S1 M1 _ _ h2.2.1 (by omega) (by omega)
  · refine z_aload_n B0 dL_law_606 rfl rfl ?_
    refine z_aload_n B0 dL_law_607 rfl rfl ?_
    refine z_iload_n B0 dL_law_608 rfl rfl ?_
    refine z_iconst (v := 1) B0 dL_law_609 (by decide) ?_
    refine z_iadd (v := nI (6 * k + 1)) B0 dL_law_610 (nI_add (6 * k) 1) ?_
    refine y_sld (j := 6 * k + 1) (v := xs (6 * k + 1)) B0 hX hbl (zx_n (by omega) (Nat.lt_of_le_of_lt hL (by decide))) rfl dL_law_611 ?_
    refine z_aload_n B0 dL_law_612 rfl rfl ?_
    refine z_iload_n B0 dL_law_613 rfl rfl ?_
    refine z_iconst (v := 2) B0 dL_law_614 (by decide) ?_
    refine z_iadd (v := nI (6 * k + 2)) B0 dL_law_615 (nI_add (6 * k) 2) ?_
    refine y_sld (j := 6 * k + 2) (v := xs (6 * k + 2)) B0 hX hbl (zx_n (by omega) (Nat.lt_of_le_of_lt hL (by decide))) rfl dL_law_616 ?_
    refine z_if_eq_f (tgt := 624) B0 dL_law_617 (by decide) hb ?_
    refine z_iconst (v := 1) B0 dL_law_620 (by decide) ?_
    refine z_goto (tgt := 625) B0 dL_law_621 (by decide) ?_
    refine z_callL B0 (z_runV (q0 := 0) (As := [.int (xs (6 * k + 1)), .int 1]) (st := []) B0 (k_X11_honest (a := a) hrw S (xs (6 * k + 1)) 1 _ (j_honest hJ (xs (6 * k + 1)) 1 (Or.inr rfl))) cf_X11_honest (kw_0 cy a rw S) rfl wm_L_77 wi_X11_honest ws_X11_honest dL_law_625 rfl (Nat.le_of_ble_eq_true rfl) ⟨by decide, by decide, by omega, by omega⟩) (fun r1 S1 h1 => ?_)
    refine z_pop B0 dL_law_628 rfl ?_
    refine z_aload_n B0 dL_law_629 rfl rfl ?_
    refine z_aload_n B0 dL_law_630 rfl rfl ?_
    refine z_iload_n B0 dL_law_631 rfl rfl ?_
    refine z_iconst (v := 1) B0 dL_law_632 (by decide) ?_
    refine z_iadd (v := nI (6 * k + 1)) B0 dL_law_633 (nI_add (6 * k) 1) ?_
    refine y_sld (j := 6 * k + 1) (v := xs (6 * k + 1)) B0 hX hbl (zx_n (by omega) (Nat.lt_of_le_of_lt hL (by decide))) rfl dL_law_634 ?_
    refine z_aload_n B0 dL_law_635 rfl rfl ?_
    refine z_iload_n B0 dL_law_636 rfl rfl ?_
    refine z_iconst (v := 2) B0 dL_law_637 (by decide) ?_
    refine z_iadd (v := nI (6 * k + 2)) B0 dL_law_638 (nI_add (6 * k) 2) ?_
    refine y_sld (j := 6 * k + 2) (v := xs (6 * k + 2)) B0 hX hbl (zx_n (by omega) (Nat.lt_of_le_of_lt hL (by decide))) rfl dL_law_639 ?_
    refine z_if_eq_f (tgt := 647) B0 dL_law_640 (by decide) hb ?_
    refine z_iconst (v := 1) B0 dL_law_643 (by decide) ?_
    refine z_goto (tgt := 648) B0 dL_law_644 (by decide) ?_
    refine z_callL B0 (z_runV (q0 := 0) (As := [.int (xs (6 * k + 1)), .int 1]) (st := []) B0 (k_X12_honest (a := a2) M (xs (6 * k + 1)) 1 _ h1) cf_X12_honest (mw_0 cy a2 M) rfl wm_L_81 wi_X12_honest ws_X12_honest dL_law_648 rfl (Nat.le_of_ble_eq_true rfl) ⟨by decide, by decide, by omega, by omega⟩) (fun r2 M1 h2 => ?_)
    refine z_pop B0 dL_law_651 rfl ?_
    refine z_goto (tgt := 1091) B0 dL_law_652 (by decide) ?_
    have h3 : (fi S1.1 0).toInt ≤ (fi S.1 0).toInt + 20 := h2.2.2
    exact fin S1 M1 _ _ h2.2.1 (by omega) (by omega)
set_option maxHeartbeats 4000000 in
set_option maxRecDepth 100000 in
theorem lo_lawful {p : Program} {l : Launch} {e : Env} {s : State} {m : MethodId} {below : List Frame} {meth : Method} {c : Code} {D : va_G} {cy : Nat → ClassId} {tB tE b : Nat} {a a2 : Nat → Nat} {rw : Nat → Option Nat} {xs : Nat → Int32} {L k nc ns : Nat} {S : KS} {M : GS} (B0 : Bz p room_1 s m #[Value.ref b] meth c D cy s.heap.size tB tE (fun q => s.heap.size ≤ q) 4 cL_law RL meth.sig.returnType meth.name 2048 84000 600000 7302250) (hX : va_X b L xs s s.heap) (hbl : b < s.heap.size) (hrw : ∀ i, i < 6 → rw i = some (a (12 + 2 * i))) (hL : L ≤ 3072) (hk : 6 * k + 6 ≤ L) (hm : nc ≤ 300000 ∧ ns ≤ 5000000) (hJ : JI cy tE S M) (fin : ∀ (S1 : KS) (M1 : GS) (nc1 ns1 : Nat), JI cy tE S1 M1 → nc1 ≤ nc + 259 → ns1 + 77 * (fi S1.1 0).toInt.toNat ≤ ns + 77 * (fi S.1 0).toInt.toNat + 2688 → Z p l e room_1 s m #[Value.ref b] below meth c D (fun q => s.heap.size ≤ q) 4 (lw_Z below #[Value.ref b] s) nc1 ns1 (kw cy a rw S1 ++ mw cy a2 M1) [(3, .int (nI (6 * k))), (2, .ref (a2 0)), (1, .ref (a 0)), (0, .ref b)] 1091 []) : Z p l e room_1 s m #[Value.ref b] below meth c D (fun q => s.heap.size ≤ q) 4 (lw_Z below #[Value.ref b] s) nc ns (kw cy a rw S ++ mw cy a2 M) [(3, .int (nI (6 * k))), (2, .ref (a2 0)), (1, .ref (a 0)), (0, .ref b)] 655 [] := by
  refine z_aload_n B0 dL_law_655 rfl rfl ?_
  refine z_aload_n B0 dL_law_656 rfl rfl ?_
  refine z_iload_n B0 dL_law_657 rfl rfl ?_
  refine z_iconst (v := 1) B0 dL_law_658 (by decide) ?_
  refine z_iadd (v := nI (6 * k + 1)) B0 dL_law_659 (nI_add (6 * k) 1) ?_
  refine y_sld (j := 6 * k + 1) (v := xs (6 * k + 1)) B0 hX hbl (zx_n (by omega) (Nat.lt_of_le_of_lt hL (by decide))) rfl dL_law_660 ?_
  refine z_aload_n B0 dL_law_661 rfl rfl ?_
  refine z_iload_n B0 dL_law_662 rfl rfl ?_
  refine z_iconst (v := 2) B0 dL_law_663 (by decide) ?_
  refine z_iadd (v := nI (6 * k + 2)) B0 dL_law_664 (nI_add (6 * k) 2) ?_
  refine y_sld (j := 6 * k + 2) (v := xs (6 * k + 2)) B0 hX hbl (zx_n (by omega) (Nat.lt_of_le_of_lt hL (by decide))) rfl dL_law_665 ?_
  refine z_aload_n B0 dL_law_666 rfl rfl ?_
  refine z_iload_n B0 dL_law_667 rfl rfl ?_
  refine z_iconst (v := 3) B0 dL_law_668 (by decide) ?_
  refine z_iadd (v := nI (6 * k + 3)) B0 dL_law_669 (nI_add (6 * k) 3) ?_
  refine y_sld (j := 6 * k + 3) (v := xs (6 * k + 3)) B0 hX hbl (zx_n (by omega) (Nat.lt_of_le_of_lt hL (by decide))) rfl dL_law_670 ?_
  refine z_aload_n B0 dL_law_671 rfl rfl ?_
  refine z_iload_n B0 dL_law_672 rfl rfl ?_
  refine z_iconst (v := 4) B0 dL_law_673 (by decide) ?_
  refine z_iadd (v := nI (6 * k + 4)) B0 dL_law_674 (nI_add (6 * k) 4) ?_
  refine y_sld (j := 6 * k + 4) (v := xs (6 * k + 4)) B0 hX hbl (zx_n (by omega) (Nat.lt_of_le_of_lt hL (by decide))) rfl dL_law_675 ?_
  refine z_callL B0 (z_runV (q0 := 0) (As := [.int (xs (6 * k + 1)), .int (xs (6 * k + 2)), .int (xs (6 * k + 3)), .int (xs (6 * k + 4))]) (st := []) B0 (k_X11_lawful (a := a) hrw S (xs (6 * k + 1)) (xs (6 * k + 2)) (xs (6 * k + 3)) (xs (6 * k + 4)) _ (j_lawful hJ (xs (6 * k + 1)) (xs (6 * k + 2)) (xs (6 * k + 3)) (xs (6 * k + 4)))) cf_X11_lawful (kw_0 cy a rw S) rfl wm_L_82 wi_X11_lawful ws_X11_lawful dL_law_676 rfl (Nat.le_of_ble_eq_true rfl) ⟨by decide, by decide, by omega, by omega⟩) (fun r1 S1 h1 => ?_)
  refine z_pop B0 dL_law_679 rfl ?_
  refine z_aload_n B0 dL_law_680 rfl rfl ?_
  refine z_aload_n B0 dL_law_681 rfl rfl ?_
  refine z_iload_n B0 dL_law_682 rfl rfl ?_
  refine z_iconst (v := 1) B0 dL_law_683 (by decide) ?_
  refine z_iadd (v := nI (6 * k + 1)) B0 dL_law_684 (nI_add (6 * k) 1) ?_
  refine y_sld (j := 6 * k + 1) (v := xs (6 * k + 1)) B0 hX hbl (zx_n (by omega) (Nat.lt_of_le_of_lt hL (by decide))) rfl dL_law_685 ?_
  refine z_aload_n B0 dL_law_686 rfl rfl ?_
  refine z_iload_n B0 dL_law_687 rfl rfl ?_
  refine z_iconst (v := 2) B0 dL_law_688 (by decide) ?_
  refine z_iadd (v := nI (6 * k + 2)) B0 dL_law_689 (nI_add (6 * k) 2) ?_
  refine y_sld (j := 6 * k + 2) (v := xs (6 * k + 2)) B0 hX hbl (zx_n (by omega) (Nat.lt_of_le_of_lt hL (by decide))) rfl dL_law_690 ?_
  refine z_aload_n B0 dL_law_691 rfl rfl ?_
  refine z_iload_n B0 dL_law_692 rfl rfl ?_
  refine z_iconst (v := 3) B0 dL_law_693 (by decide) ?_
  refine z_iadd (v := nI (6 * k + 3)) B0 dL_law_694 (nI_add (6 * k) 3) ?_
  refine y_sld (j := 6 * k + 3) (v := xs (6 * k + 3)) B0 hX hbl (zx_n (by omega) (Nat.lt_of_le_of_lt hL (by decide))) rfl dL_law_695 ?_
  refine z_aload_n B0 dL_law_696 rfl rfl ?_
  refine z_iload_n B0 dL_law_697 rfl rfl ?_
  refine z_iconst (v := 4) B0 dL_law_698 (by decide) ?_
  refine z_iadd (v := nI (6 * k + 4)) B0 dL_law_699 (nI_add (6 * k) 4) ?_
  refine y_sld (j := 6 * k + 4) (v := xs (6 * k + 4)) B0 hX hbl (zx_n (by omega) (Nat.lt_of_le_of_lt hL (by decide))) rfl dL_law_700 ?_
  refine z_callL B0 (z_runV (q0 := 0) (As := [.int (xs (6 * k + 1)), .int (xs (6 * k + 2)), .int (xs (6 * k + 3)), .int (xs (6 * k + 4))]) (st := []) B0 (k_X12_lawful (a := a2) M (xs (6 * k + 1)) (xs (6 * k + 2)) (xs (6 * k + 3)) (xs (6 * k + 4)) _ h1) cf_X12_lawful (mw_0 cy a2 M) rfl wm_L_86 wi_X12_lawful ws_X12_lawful dL_law_701 rfl (Nat.le_of_ble_eq_true rfl) ⟨by decide, by decide, by omega, by omega⟩) (fun r2 M1 h2 => ?_)
  refine z_pop B0 dL_law_704 rfl ?_
  refine z_goto (tgt := 1091) B0 dL_law_705 (by decide) ?_
  have h3 : (fi S1.1 0).toInt ≤ (fi S.1 0).toInt + 20 := h2.2.2
  exact fin S1 M1 _ _ h2.2.1 (by omega) (by omega)
set_option maxHeartbeats 4000000 in
set_option maxRecDepth 100000 in
theorem lo_after {p : Program} {l : Launch} {e : Env} {s : State} {m : MethodId} {below : List Frame} {meth : Method} {c : Code} {D : va_G} {cy : Nat → ClassId} {tB tE b : Nat} {a a2 : Nat → Nat} {rw : Nat → Option Nat} {xs : Nat → Int32} {L k nc ns : Nat} {S : KS} {M : GS} (B0 : Bz p room_1 s m #[Value.ref b] meth c D cy s.heap.size tB tE (fun q => s.heap.size ≤ q) 4 cL_law RL meth.sig.returnType meth.name 2048 84000 600000 7302250) (hX : va_X b L xs s s.heap) (hbl : b < s.heap.size) (hrw : ∀ i, i < 6 → rw i = some (a (12 + 2 * i))) (hL : L ≤ 3072) (hk : 6 * k + 6 ≤ L) (hm : nc ≤ 300000 ∧ ns ≤ 5000000) (hJ : JI cy tE S M) (fin : ∀ (S1 : KS) (M1 : GS) (nc1 ns1 : Nat), JI cy tE S1 M1 → nc1 ≤ nc + 259 → ns1 + 77 * (fi S1.1 0).toInt.toNat ≤ ns + 77 * (fi S.1 0).toInt.toNat + 2688 → Z p l e room_1 s m #[Value.ref b] below meth c D (fun q => s.heap.size ≤ q) 4 (lw_Z below #[Value.ref b] s) nc1 ns1 (kw cy a rw S1 ++ mw cy a2 M1) [(3, .int (nI (6 * k))), (2, .ref (a2 0)), (1, .ref (a 0)), (0, .ref b)] 1091 []) : Z p l e room_1 s m #[Value.ref b] below meth c D (fun q => s.heap.size ≤ q) 4 (lw_Z below #[Value.ref b] s) nc ns (kw cy a rw S ++ mw cy a2 M) [(3, .int (nI (6 * k))), (2, .ref (a2 0)), (1, .ref (a 0)), (0, .ref b)] 708 [] := by
  refine z_aload_n B0 dL_law_708 rfl rfl ?_
  refine z_aload_n B0 dL_law_709 rfl rfl ?_
  refine z_iload_n B0 dL_law_710 rfl rfl ?_
  refine z_iconst (v := 1) B0 dL_law_711 (by decide) ?_
  refine z_iadd (v := nI (6 * k + 1)) B0 dL_law_712 (nI_add (6 * k) 1) ?_
  refine y_sld (j := 6 * k + 1) (v := xs (6 * k + 1)) B0 hX hbl (zx_n (by omega) (Nat.lt_of_le_of_lt hL (by decide))) rfl dL_law_713 ?_
  refine z_aload_n B0 dL_law_714 rfl rfl ?_
  refine z_iload_n B0 dL_law_715 rfl rfl ?_
  refine z_iconst (v := 2) B0 dL_law_716 (by decide) ?_
  refine z_iadd (v := nI (6 * k + 2)) B0 dL_law_717 (nI_add (6 * k) 2) ?_
  refine y_sld (j := 6 * k + 2) (v := xs (6 * k + 2)) B0 hX hbl (zx_n (by omega) (Nat.lt_of_le_of_lt hL (by decide))) rfl dL_law_718 ?_
  refine z_callL B0 (z_runV (q0 := 0) (As := [.int (xs (6 * k + 1)), .int (xs (6 * k + 2))]) (st := []) B0 (k_X11_after (a := a) hrw S (xs (6 * k + 1)) (xs (6 * k + 2)) _ (j_after hJ (xs (6 * k + 1)) (xs (6 * k + 2)))) cf_X11_after (kw_0 cy a rw S) rfl wm_L_87 wi_X11_after ws_X11_after dL_law_719 rfl (Nat.le_of_ble_eq_true rfl) ⟨by decide, by decide, by omega, by omega⟩) (fun r1 S1 h1 => ?_)
  refine z_pop B0 dL_law_722 rfl ?_
  refine z_aload_n B0 dL_law_723 rfl rfl ?_
  refine z_aload_n B0 dL_law_724 rfl rfl ?_
  refine z_iload_n B0 dL_law_725 rfl rfl ?_
  refine z_iconst (v := 1) B0 dL_law_726 (by decide) ?_
  refine z_iadd (v := nI (6 * k + 1)) B0 dL_law_727 (nI_add (6 * k) 1) ?_
  refine y_sld (j := 6 * k + 1) (v := xs (6 * k + 1)) B0 hX hbl (zx_n (by omega) (Nat.lt_of_le_of_lt hL (by decide))) rfl dL_law_728 ?_
  refine z_aload_n B0 dL_law_729 rfl rfl ?_
  refine z_iload_n B0 dL_law_730 rfl rfl ?_
  refine z_iconst (v := 2) B0 dL_law_731 (by decide) ?_
  refine z_iadd (v := nI (6 * k + 2)) B0 dL_law_732 (nI_add (6 * k) 2) ?_
  refine y_sld (j := 6 * k + 2) (v := xs (6 * k + 2)) B0 hX hbl (zx_n (by omega) (Nat.lt_of_le_of_lt hL (by decide))) rfl dL_law_733 ?_
  refine z_callL B0 (z_runV (q0 := 0) (As := [.int (xs (6 * k + 1)), .int (xs (6 * k + 2))]) (st := []) B0 (k_X12_after (a := a2) M (xs (6 * k + 1)) (xs (6 * k + 2)) _ h1) cf_X12_after (mw_0 cy a2 M) rfl wm_L_90 wi_X12_after ws_X12_after dL_law_734 rfl (Nat.le_of_ble_eq_true rfl) ⟨by decide, by decide, by omega, by omega⟩) (fun r2 M1 h2 => ?_)
  refine z_pop B0 dL_law_737 rfl ?_
  refine z_goto (tgt := 1091) B0 dL_law_738 (by decide) ?_
  have h3 : (fi S1.1 0).toInt ≤ (fi S.1 0).toInt + 20 := h2.2.2
  exact fin S1 M1 _ _ h2.2.1 (by omega) (by omega)
set_option maxHeartbeats 4000000 in
set_option maxRecDepth 100000 in
theorem lo_hole {p : Program} {l : Launch} {e : Env} {s : State} {m : MethodId} {below : List Frame} {meth : Method} {c : Code} {D : va_G} {cy : Nat → ClassId} {tB tE b : Nat} {a a2 : Nat → Nat} {rw : Nat → Option Nat} {xs : Nat → Int32} {L k nc ns : Nat} {S : KS} {M : GS} (B0 : Bz p room_1 s m #[Value.ref b] meth c D cy s.heap.size tB tE (fun q => s.heap.size ≤ q) 4 cL_law RL meth.sig.returnType meth.name 2048 84000 600000 7302250) (hX : va_X b L xs s s.heap) (hbl : b < s.heap.size) (hrw : ∀ i, i < 6 → rw i = some (a (12 + 2 * i))) (hL : L ≤ 3072) (hk : 6 * k + 6 ≤ L) (hm : nc ≤ 300000 ∧ ns ≤ 5000000) (hJ : JI cy tE S M) (fin : ∀ (S1 : KS) (M1 : GS) (nc1 ns1 : Nat), JI cy tE S1 M1 → nc1 ≤ nc + 259 → ns1 + 77 * (fi S1.1 0).toInt.toNat ≤ ns + 77 * (fi S.1 0).toInt.toNat + 2688 → Z p l e room_1 s m #[Value.ref b] below meth c D (fun q => s.heap.size ≤ q) 4 (lw_Z below #[Value.ref b] s) nc1 ns1 (kw cy a rw S1 ++ mw cy a2 M1) [(3, .int (nI (6 * k))), (2, .ref (a2 0)), (1, .ref (a 0)), (0, .ref b)] 1091 []) : Z p l e room_1 s m #[Value.ref b] below meth c D (fun q => s.heap.size ≤ q) 4 (lw_Z below #[Value.ref b] s) nc ns (kw cy a rw S ++ mw cy a2 M) [(3, .int (nI (6 * k))), (2, .ref (a2 0)), (1, .ref (a 0)), (0, .ref b)] 741 [] := by
  refine z_aload_n B0 dL_law_741 rfl rfl ?_
  refine z_aload_n B0 dL_law_742 rfl rfl ?_
  refine z_iload_n B0 dL_law_743 rfl rfl ?_
  refine z_iconst (v := 1) B0 dL_law_744 (by decide) ?_
  refine z_iadd (v := nI (6 * k + 1)) B0 dL_law_745 (nI_add (6 * k) 1) ?_
  refine y_sld (j := 6 * k + 1) (v := xs (6 * k + 1)) B0 hX hbl (zx_n (by omega) (Nat.lt_of_le_of_lt hL (by decide))) rfl dL_law_746 ?_
  refine z_aload_n B0 dL_law_747 rfl rfl ?_
  refine z_iload_n B0 dL_law_748 rfl rfl ?_
  refine z_iconst (v := 2) B0 dL_law_749 (by decide) ?_
  refine z_iadd (v := nI (6 * k + 2)) B0 dL_law_750 (nI_add (6 * k) 2) ?_
  refine y_sld (j := 6 * k + 2) (v := xs (6 * k + 2)) B0 hX hbl (zx_n (by omega) (Nat.lt_of_le_of_lt hL (by decide))) rfl dL_law_751 ?_
  refine z_aload_n B0 dL_law_752 rfl rfl ?_
  refine z_iload_n B0 dL_law_753 rfl rfl ?_
  refine z_iconst (v := 3) B0 dL_law_754 (by decide) ?_
  refine z_iadd (v := nI (6 * k + 3)) B0 dL_law_755 (nI_add (6 * k) 3) ?_
  refine y_sld (j := 6 * k + 3) (v := xs (6 * k + 3)) B0 hX hbl (zx_n (by omega) (Nat.lt_of_le_of_lt hL (by decide))) rfl dL_law_756 ?_
  refine z_aload_n B0 dL_law_757 rfl rfl ?_
  refine z_iload_n B0 dL_law_758 rfl rfl ?_
  refine z_iconst (v := 4) B0 dL_law_759 (by decide) ?_
  refine z_iadd (v := nI (6 * k + 4)) B0 dL_law_760 (nI_add (6 * k) 4) ?_
  refine y_sld (j := 6 * k + 4) (v := xs (6 * k + 4)) B0 hX hbl (zx_n (by omega) (Nat.lt_of_le_of_lt hL (by decide))) rfl dL_law_761 ?_
  refine z_aload_n B0 dL_law_762 rfl rfl ?_
  refine z_iload_n B0 dL_law_763 rfl rfl ?_
  refine z_iconst (v := 5) B0 dL_law_764 (by decide) ?_
  refine z_iadd (v := nI (6 * k + 5)) B0 dL_law_765 (nI_add (6 * k) 5) ?_
  refine y_sld (j := 6 * k + 5) (v := xs (6 * k + 5)) B0 hX hbl (zx_n (by omega) (Nat.lt_of_le_of_lt hL (by decide))) rfl dL_law_766 ?_
  refine z_callL B0 (z_runV (q0 := 0) (As := [.int (xs (6 * k + 1)), .int (xs (6 * k + 2)), .int (xs (6 * k + 3)), .int (xs (6 * k + 4)), .int (xs (6 * k + 5))]) (st := []) B0 (k_X11_hole (a := a) hrw S (xs (6 * k + 1)) (xs (6 * k + 2)) (xs (6 * k + 3)) (xs (6 * k + 4)) (xs (6 * k + 5)) _ (j_hole hJ (xs (6 * k + 1)) (xs (6 * k + 2)) (xs (6 * k + 3)) (xs (6 * k + 4)) (xs (6 * k + 5)))) cf_X11_hole (kw_0 cy a rw S) rfl wm_L_91 wi_X11_hole ws_X11_hole dL_law_767 rfl (Nat.le_of_ble_eq_true rfl) ⟨by decide, by decide, by omega, by omega⟩) (fun r1 S1 h1 => ?_)
  refine z_pop B0 dL_law_770 rfl ?_
  refine z_aload_n B0 dL_law_771 rfl rfl ?_
  refine z_aload_n B0 dL_law_772 rfl rfl ?_
  refine z_iload_n B0 dL_law_773 rfl rfl ?_
  refine z_iconst (v := 1) B0 dL_law_774 (by decide) ?_
  refine z_iadd (v := nI (6 * k + 1)) B0 dL_law_775 (nI_add (6 * k) 1) ?_
  refine y_sld (j := 6 * k + 1) (v := xs (6 * k + 1)) B0 hX hbl (zx_n (by omega) (Nat.lt_of_le_of_lt hL (by decide))) rfl dL_law_776 ?_
  refine z_aload_n B0 dL_law_777 rfl rfl ?_
  refine z_iload_n B0 dL_law_778 rfl rfl ?_
  refine z_iconst (v := 2) B0 dL_law_779 (by decide) ?_
  refine z_iadd (v := nI (6 * k + 2)) B0 dL_law_780 (nI_add (6 * k) 2) ?_
  refine y_sld (j := 6 * k + 2) (v := xs (6 * k + 2)) B0 hX hbl (zx_n (by omega) (Nat.lt_of_le_of_lt hL (by decide))) rfl dL_law_781 ?_
  refine z_aload_n B0 dL_law_782 rfl rfl ?_
  refine z_iload_n B0 dL_law_783 rfl rfl ?_
  refine z_iconst (v := 3) B0 dL_law_784 (by decide) ?_
  refine z_iadd (v := nI (6 * k + 3)) B0 dL_law_785 (nI_add (6 * k) 3) ?_
  refine y_sld (j := 6 * k + 3) (v := xs (6 * k + 3)) B0 hX hbl (zx_n (by omega) (Nat.lt_of_le_of_lt hL (by decide))) rfl dL_law_786 ?_
  refine z_aload_n B0 dL_law_787 rfl rfl ?_
  refine z_iload_n B0 dL_law_788 rfl rfl ?_
  refine z_iconst (v := 4) B0 dL_law_789 (by decide) ?_
  refine z_iadd (v := nI (6 * k + 4)) B0 dL_law_790 (nI_add (6 * k) 4) ?_
  refine y_sld (j := 6 * k + 4) (v := xs (6 * k + 4)) B0 hX hbl (zx_n (by omega) (Nat.lt_of_le_of_lt hL (by decide))) rfl dL_law_791 ?_
  refine z_aload_n B0 dL_law_792 rfl rfl ?_
  refine z_iload_n B0 dL_law_793 rfl rfl ?_
  refine z_iconst (v := 5) B0 dL_law_794 (by decide) ?_
  refine z_iadd (v := nI (6 * k + 5)) B0 dL_law_795 (nI_add (6 * k) 5) ?_
  refine y_sld (j := 6 * k + 5) (v := xs (6 * k + 5)) B0 hX hbl (zx_n (by omega) (Nat.lt_of_le_of_lt hL (by decide))) rfl dL_law_796 ?_
  refine z_callL B0 (z_runV (q0 := 0) (As := [.int (xs (6 * k + 1)), .int (xs (6 * k + 2)), .int (xs (6 * k + 3)), .int (xs (6 * k + 4)), .int (xs (6 * k + 5))]) (st := []) B0 (k_X12_hole (a := a2) M (xs (6 * k + 1)) (xs (6 * k + 2)) (xs (6 * k + 3)) (xs (6 * k + 4)) (xs (6 * k + 5)) _ h1) cf_X12_hole (mw_0 cy a2 M) rfl wm_L_94 wi_X12_hole ws_X12_hole dL_law_797 rfl (Nat.le_of_ble_eq_true rfl) ⟨by decide, by decide, by omega, by omega⟩) (fun r2 M1 h2 => ?_)
  refine z_pop B0 dL_law_800 rfl ?_
  refine z_goto (tgt := 1091) B0 dL_law_801 (by decide) ?_
  have h3 : (fi S1.1 0).toInt ≤ (fi S.1 0).toInt + 20 := h2.2
  exact fin S1 M1 _ _ h2.1 (by omega) (by omega)
set_option maxHeartbeats 4000000 in
set_option maxRecDepth 100000 in
theorem lo_friends {p : Program} {l : Launch} {e : Env} {s : State} {m : MethodId} {below : List Frame} {meth : Method} {c : Code} {D : va_G} {cy : Nat → ClassId} {tB tE b : Nat} {a a2 : Nat → Nat} {rw : Nat → Option Nat} {xs : Nat → Int32} {L k nc ns : Nat} {S : KS} {M : GS} (B0 : Bz p room_1 s m #[Value.ref b] meth c D cy s.heap.size tB tE (fun q => s.heap.size ≤ q) 4 cL_law RL meth.sig.returnType meth.name 2048 84000 600000 7302250) (hX : va_X b L xs s s.heap) (hbl : b < s.heap.size) (hrw : ∀ i, i < 6 → rw i = some (a (12 + 2 * i))) (hL : L ≤ 3072) (hk : 6 * k + 6 ≤ L) (hm : nc ≤ 300000 ∧ ns ≤ 5000000) (hJ : JI cy tE S M) (fin : ∀ (S1 : KS) (M1 : GS) (nc1 ns1 : Nat), JI cy tE S1 M1 → nc1 ≤ nc + 259 → ns1 + 77 * (fi S1.1 0).toInt.toNat ≤ ns + 77 * (fi S.1 0).toInt.toNat + 2688 → Z p l e room_1 s m #[Value.ref b] below meth c D (fun q => s.heap.size ≤ q) 4 (lw_Z below #[Value.ref b] s) nc1 ns1 (kw cy a rw S1 ++ mw cy a2 M1) [(3, .int (nI (6 * k))), (2, .ref (a2 0)), (1, .ref (a 0)), (0, .ref b)] 1091 []) : Z p l e room_1 s m #[Value.ref b] below meth c D (fun q => s.heap.size ≤ q) 4 (lw_Z below #[Value.ref b] s) nc ns (kw cy a rw S ++ mw cy a2 M) [(3, .int (nI (6 * k))), (2, .ref (a2 0)), (1, .ref (a 0)), (0, .ref b)] 804 [] := by
  refine z_aload_n B0 dL_law_804 rfl rfl ?_
  refine z_aload_n B0 dL_law_805 rfl rfl ?_
  refine z_iload_n B0 dL_law_806 rfl rfl ?_
  refine z_iconst (v := 1) B0 dL_law_807 (by decide) ?_
  refine z_iadd (v := nI (6 * k + 1)) B0 dL_law_808 (nI_add (6 * k) 1) ?_
  refine y_sld (j := 6 * k + 1) (v := xs (6 * k + 1)) B0 hX hbl (zx_n (by omega) (Nat.lt_of_le_of_lt hL (by decide))) rfl dL_law_809 ?_
  refine z_aload_n B0 dL_law_810 rfl rfl ?_
  refine z_iload_n B0 dL_law_811 rfl rfl ?_
  refine z_iconst (v := 2) B0 dL_law_812 (by decide) ?_
  refine z_iadd (v := nI (6 * k + 2)) B0 dL_law_813 (nI_add (6 * k) 2) ?_
  refine y_sld (j := 6 * k + 2) (v := xs (6 * k + 2)) B0 hX hbl (zx_n (by omega) (Nat.lt_of_le_of_lt hL (by decide))) rfl dL_law_814 ?_
  refine z_aload_n B0 dL_law_815 rfl rfl ?_
  refine z_iload_n B0 dL_law_816 rfl rfl ?_
  refine z_iconst (v := 3) B0 dL_law_817 (by decide) ?_
  refine z_iadd (v := nI (6 * k + 3)) B0 dL_law_818 (nI_add (6 * k) 3) ?_
  refine y_sld (j := 6 * k + 3) (v := xs (6 * k + 3)) B0 hX hbl (zx_n (by omega) (Nat.lt_of_le_of_lt hL (by decide))) rfl dL_law_819 ?_
  refine z_callL B0 (z_runV (q0 := 0) (As := [.int (xs (6 * k + 1)), .int (xs (6 * k + 2)), .int (xs (6 * k + 3))]) (st := []) B0 (k_X11_friends (a := a) hrw S (xs (6 * k + 1)) (xs (6 * k + 2)) (xs (6 * k + 3)) _ (j_friends hJ (xs (6 * k + 1)) (xs (6 * k + 2)) (xs (6 * k + 3)))) cf_X11_friends (kw_0 cy a rw S) rfl wm_L_95 wi_X11_friends ws_X11_friends dL_law_820 rfl (Nat.le_of_ble_eq_true rfl) ⟨by decide, by decide, by omega, by omega⟩) (fun r1 S1 h1 => ?_)
  refine z_pop B0 dL_law_823 rfl ?_
  refine z_aload_n B0 dL_law_824 rfl rfl ?_
  refine z_aload_n B0 dL_law_825 rfl rfl ?_
  refine z_iload_n B0 dL_law_826 rfl rfl ?_
  refine z_iconst (v := 1) B0 dL_law_827 (by decide) ?_
  refine z_iadd (v := nI (6 * k + 1)) B0 dL_law_828 (nI_add (6 * k) 1) ?_
  refine y_sld (j := 6 * k + 1) (v := xs (6 * k + 1)) B0 hX hbl (zx_n (by omega) (Nat.lt_of_le_of_lt hL (by decide))) rfl dL_law_829 ?_
  refine z_aload_n B0 dL_law_830 rfl rfl ?_
  refine z_iload_n B0 dL_law_831 rfl rfl ?_
  refine z_iconst (v := 2) B0 dL_law_832 (by decide) ?_
  refine z_iadd (v := nI (6 * k + 2)) B0 dL_law_833 (nI_add (6 * k) 2) ?_
  refine y_sld (j := 6 * k + 2) (v := xs (6 * k + 2)) B0 hX hbl (zx_n (by omega) (Nat.lt_of_le_of_lt hL (by decide))) rfl dL_law_834 ?_
  refine z_aload_n B0 dL_law_835 rfl rfl ?_
  refine z_iload_n B0 dL_law_836 rfl rfl ?_
  refine z_iconst (v := 3) B0 dL_law_837 (by decide) ?_
  refine z_iadd (v := nI (6 * k + 3)) B0 dL_law_838 (nI_add (6 * k) 3) ?_
  refine y_sld (j := 6 * k + 3) (v := xs (6 * k + 3)) B0 hX hbl (zx_n (by omega) (Nat.lt_of_le_of_lt hL (by decide))) rfl dL_law_839 ?_
  refine z_callL B0 (z_runV (q0 := 0) (As := [.int (xs (6 * k + 1)), .int (xs (6 * k + 2)), .int (xs (6 * k + 3))]) (st := []) B0 (k_X12_friends (a := a2) M (xs (6 * k + 1)) (xs (6 * k + 2)) (xs (6 * k + 3)) _ h1) cf_X12_friends (mw_0 cy a2 M) rfl wm_L_99 wi_X12_friends ws_X12_friends dL_law_840 rfl (Nat.le_of_ble_eq_true rfl) ⟨by decide, by decide, by omega, by omega⟩) (fun r2 M1 h2 => ?_)
  refine z_pop B0 dL_law_843 rfl ?_
  refine z_goto (tgt := 1091) B0 dL_law_844 (by decide) ?_
  have h3 : (fi S1.1 0).toInt ≤ (fi S.1 0).toInt + 20 := h2.2.2
  exact fin S1 M1 _ _ h2.2.1 (by omega) (by omega)
set_option maxHeartbeats 4000000 in
set_option maxRecDepth 100000 in
theorem lo_only {p : Program} {l : Launch} {e : Env} {s : State} {m : MethodId} {below : List Frame} {meth : Method} {c : Code} {D : va_G} {cy : Nat → ClassId} {tB tE b : Nat} {a a2 : Nat → Nat} {rw : Nat → Option Nat} {xs : Nat → Int32} {L k nc ns : Nat} {S : KS} {M : GS} (B0 : Bz p room_1 s m #[Value.ref b] meth c D cy s.heap.size tB tE (fun q => s.heap.size ≤ q) 4 cL_law RL meth.sig.returnType meth.name 2048 84000 600000 7302250) (hX : va_X b L xs s s.heap) (hbl : b < s.heap.size) (hrw : ∀ i, i < 6 → rw i = some (a (12 + 2 * i))) (hL : L ≤ 3072) (hk : 6 * k + 6 ≤ L) (hm : nc ≤ 300000 ∧ ns ≤ 5000000) (hJ : JI cy tE S M) (fin : ∀ (S1 : KS) (M1 : GS) (nc1 ns1 : Nat), JI cy tE S1 M1 → nc1 ≤ nc + 259 → ns1 + 77 * (fi S1.1 0).toInt.toNat ≤ ns + 77 * (fi S.1 0).toInt.toNat + 2688 → Z p l e room_1 s m #[Value.ref b] below meth c D (fun q => s.heap.size ≤ q) 4 (lw_Z below #[Value.ref b] s) nc1 ns1 (kw cy a rw S1 ++ mw cy a2 M1) [(3, .int (nI (6 * k))), (2, .ref (a2 0)), (1, .ref (a 0)), (0, .ref b)] 1091 []) : Z p l e room_1 s m #[Value.ref b] below meth c D (fun q => s.heap.size ≤ q) 4 (lw_Z below #[Value.ref b] s) nc ns (kw cy a rw S ++ mw cy a2 M) [(3, .int (nI (6 * k))), (2, .ref (a2 0)), (1, .ref (a 0)), (0, .ref b)] 847 [] := by
  refine z_aload_n B0 dL_law_847 rfl rfl ?_
  refine z_aload_n B0 dL_law_848 rfl rfl ?_
  refine z_iload_n B0 dL_law_849 rfl rfl ?_
  refine z_iconst (v := 1) B0 dL_law_850 (by decide) ?_
  refine z_iadd (v := nI (6 * k + 1)) B0 dL_law_851 (nI_add (6 * k) 1) ?_
  refine y_sld (j := 6 * k + 1) (v := xs (6 * k + 1)) B0 hX hbl (zx_n (by omega) (Nat.lt_of_le_of_lt hL (by decide))) rfl dL_law_852 ?_
  refine z_aload_n B0 dL_law_853 rfl rfl ?_
  refine z_iload_n B0 dL_law_854 rfl rfl ?_
  refine z_iconst (v := 2) B0 dL_law_855 (by decide) ?_
  refine z_iadd (v := nI (6 * k + 2)) B0 dL_law_856 (nI_add (6 * k) 2) ?_
  refine y_sld (j := 6 * k + 2) (v := xs (6 * k + 2)) B0 hX hbl (zx_n (by omega) (Nat.lt_of_le_of_lt hL (by decide))) rfl dL_law_857 ?_
  refine z_callL B0 (z_runV (q0 := 0) (As := [.int (xs (6 * k + 1)), .int (xs (6 * k + 2))]) (st := []) B0 (k_X11_only (a := a) hrw S (xs (6 * k + 1)) (xs (6 * k + 2)) _ (j_only hJ (xs (6 * k + 1)) (xs (6 * k + 2)))) cf_X11_only (kw_0 cy a rw S) rfl wm_L_100 wi_X11_only ws_X11_only dL_law_858 rfl (Nat.le_of_ble_eq_true rfl) ⟨by decide, by decide, by omega, by omega⟩) (fun r1 S1 h1 => ?_)
  refine z_pop B0 dL_law_861 rfl ?_
  refine z_aload_n B0 dL_law_862 rfl rfl ?_
  refine z_aload_n B0 dL_law_863 rfl rfl ?_
  refine z_iload_n B0 dL_law_864 rfl rfl ?_
  refine z_iconst (v := 1) B0 dL_law_865 (by decide) ?_
  refine z_iadd (v := nI (6 * k + 1)) B0 dL_law_866 (nI_add (6 * k) 1) ?_
  refine y_sld (j := 6 * k + 1) (v := xs (6 * k + 1)) B0 hX hbl (zx_n (by omega) (Nat.lt_of_le_of_lt hL (by decide))) rfl dL_law_867 ?_
  refine z_aload_n B0 dL_law_868 rfl rfl ?_
  refine z_iload_n B0 dL_law_869 rfl rfl ?_
  refine z_iconst (v := 2) B0 dL_law_870 (by decide) ?_
  refine z_iadd (v := nI (6 * k + 2)) B0 dL_law_871 (nI_add (6 * k) 2) ?_
  refine y_sld (j := 6 * k + 2) (v := xs (6 * k + 2)) B0 hX hbl (zx_n (by omega) (Nat.lt_of_le_of_lt hL (by decide))) rfl dL_law_872 ?_
  refine z_callL B0 (z_runV (q0 := 0) (As := [.int (xs (6 * k + 1)), .int (xs (6 * k + 2))]) (st := []) B0 (k_X12_only (a := a2) M (xs (6 * k + 1)) (xs (6 * k + 2)) _ h1) cf_X12_only (mw_0 cy a2 M) rfl wm_L_103 wi_X12_only ws_X12_only dL_law_873 rfl (Nat.le_of_ble_eq_true rfl) ⟨by decide, by decide, by omega, by omega⟩) (fun r2 M1 h2 => ?_)
  refine z_pop B0 dL_law_876 rfl ?_
  refine z_goto (tgt := 1091) B0 dL_law_877 (by decide) ?_
  have h3 : (fi S1.1 0).toInt ≤ (fi S.1 0).toInt + 20 := h2.2.2
  exact fin S1 M1 _ _ h2.2.1 (by omega) (by omega)
set_option maxHeartbeats 4000000 in
set_option maxRecDepth 100000 in
theorem lo_met {p : Program} {l : Launch} {e : Env} {s : State} {m : MethodId} {below : List Frame} {meth : Method} {c : Code} {D : va_G} {cy : Nat → ClassId} {tB tE b : Nat} {a a2 : Nat → Nat} {rw : Nat → Option Nat} {xs : Nat → Int32} {L k nc ns : Nat} {S : KS} {M : GS} (B0 : Bz p room_1 s m #[Value.ref b] meth c D cy s.heap.size tB tE (fun q => s.heap.size ≤ q) 4 cL_law RL meth.sig.returnType meth.name 2048 84000 600000 7302250) (hX : va_X b L xs s s.heap) (hbl : b < s.heap.size) (hrw : ∀ i, i < 6 → rw i = some (a (12 + 2 * i))) (hL : L ≤ 3072) (hk : 6 * k + 6 ≤ L) (hm : nc ≤ 300000 ∧ ns ≤ 5000000) (hJ : JI cy tE S M) (fin : ∀ (S1 : KS) (M1 : GS) (nc1 ns1 : Nat), JI cy tE S1 M1 → nc1 ≤ nc + 259 → ns1 + 77 * (fi S1.1 0).toInt.toNat ≤ ns + 77 * (fi S.1 0).toInt.toNat + 2688 → Z p l e room_1 s m #[Value.ref b] below meth c D (fun q => s.heap.size ≤ q) 4 (lw_Z below #[Value.ref b] s) nc1 ns1 (kw cy a rw S1 ++ mw cy a2 M1) [(3, .int (nI (6 * k))), (2, .ref (a2 0)), (1, .ref (a 0)), (0, .ref b)] 1091 []) : Z p l e room_1 s m #[Value.ref b] below meth c D (fun q => s.heap.size ≤ q) 4 (lw_Z below #[Value.ref b] s) nc ns (kw cy a rw S ++ mw cy a2 M) [(3, .int (nI (6 * k))), (2, .ref (a2 0)), (1, .ref (a 0)), (0, .ref b)] 880 [] := by
  by_cases hb : xs (6 * k + 3) = 0
  · refine z_aload_n B0 dL_law_880 rfl rfl ?_
    refine z_aload_n B0 dL_law_881 rfl rfl ?_
    refine z_iload_n B0 dL_law_882 rfl rfl ?_
    refine z_iconst (v := 1) B0 dL_law_883 (by decide) ?_
    refine z_iadd (v := nI (6 * k + 1)) B0 dL_law_884 (nI_add (6 * k) 1) ?_
    refine y_sld (j := 6 * k + 1) (v := xs (6 * k + 1)) B0 hX hbl (zx_n (by omega) (Nat.lt_of_le_of_lt hL (by decide))) rfl dL_law_885 ?_
    refine z_aload_n B0 dL_law_886 rfl rfl ?_
    refine z_iload_n B0 dL_law_887 rfl rfl ?_
    refine z_iconst (v := 2) B0 dL_law_888 (by decide) ?_
    refine z_iadd (v := nI (6 * k + 2)) B0 dL_law_889 (nI_add (6 * k) 2) ?_
    refine y_sld (j := 6 * k + 2) (v := xs (6 * k + 2)) B0 hX hbl (zx_n (by omega) (Nat.lt_of_le_of_lt hL (by decide))) rfl dL_law_890 ?_
    refine z_aload_n B0 dL_law_891 rfl rfl ?_
    refine z_iload_n B0 dL_law_892 rfl rfl ?_
    refine z_iconst (v := 3) B0 dL_law_893 (by decide) ?_
    refine z_iadd (v := nI (6 * k + 3)) B0 dL_law_894 (nI_add (6 * k) 3) ?_
    refine y_sld (j := 6 * k + 3) (v := xs (6 * k + 3)) B0 hX hbl (zx_n (by omega) (Nat.lt_of_le_of_lt hL (by decide))) rfl dL_law_895 ?_
    refine z_if_eq_t (tgt := 903) B0 dL_law_896 (by decide) hb ?_
    refine z_iconst (v := 0) B0 dL_law_903 (by decide) ?_
    refine z_callL B0 (z_runV (q0 := 0) (As := [.int (xs (6 * k + 1)), .int (xs (6 * k + 2)), .int 0]) (st := []) B0 (k_X11_met (a := a) hrw S (xs (6 * k + 1)) (xs (6 * k + 2)) 0 _ (j_met hJ (xs (6 * k + 1)) (xs (6 * k + 2)) 0)) cf_X11_met (kw_0 cy a rw S) rfl wm_L_104 wi_X11_met ws_X11_met dL_law_904 rfl (Nat.le_of_ble_eq_true rfl) ⟨by decide, by decide, by omega, by omega⟩) (fun r1 S1 h1 => ?_)
    refine z_aload_n B0 dL_law_907 rfl rfl ?_
    refine z_aload_n B0 dL_law_908 rfl rfl ?_
    refine z_iload_n B0 dL_law_909 rfl rfl ?_
    refine z_iconst (v := 1) B0 dL_law_910 (by decide) ?_
    refine z_iadd (v := nI (6 * k + 1)) B0 dL_law_911 (nI_add (6 * k) 1) ?_
    refine y_sld (j := 6 * k + 1) (v := xs (6 * k + 1)) B0 hX hbl (zx_n (by omega) (Nat.lt_of_le_of_lt hL (by decide))) rfl dL_law_912 ?_
    refine z_aload_n B0 dL_law_913 rfl rfl ?_
    refine z_iload_n B0 dL_law_914 rfl rfl ?_
    refine z_iconst (v := 2) B0 dL_law_915 (by decide) ?_
    refine z_iadd (v := nI (6 * k + 2)) B0 dL_law_916 (nI_add (6 * k) 2) ?_
    refine y_sld (j := 6 * k + 2) (v := xs (6 * k + 2)) B0 hX hbl (zx_n (by omega) (Nat.lt_of_le_of_lt hL (by decide))) rfl dL_law_917 ?_
    refine z_aload_n B0 dL_law_918 rfl rfl ?_
    refine z_iload_n B0 dL_law_919 rfl rfl ?_
    refine z_iconst (v := 3) B0 dL_law_920 (by decide) ?_
    refine z_iadd (v := nI (6 * k + 3)) B0 dL_law_921 (nI_add (6 * k) 3) ?_
    refine y_sld (j := 6 * k + 3) (v := xs (6 * k + 3)) B0 hX hbl (zx_n (by omega) (Nat.lt_of_le_of_lt hL (by decide))) rfl dL_law_922 ?_
    refine z_if_eq_t (tgt := 930) B0 dL_law_923 (by decide) hb ?_
    refine z_iconst (v := 0) B0 dL_law_930 (by decide) ?_
    refine z_callL B0 (z_runV (q0 := 0) (As := [.int (xs (6 * k + 1)), .int (xs (6 * k + 2)), .int 0]) (st := [.int r1]) B0 (k_X12_met (a := a2) M (xs (6 * k + 1)) (xs (6 * k + 2)) 0 _ h1) cf_X12_met (mw_0 cy a2 M) rfl wm_L_108 wi_X12_met ws_X12_met dL_law_931 rfl (Nat.le_of_ble_eq_true rfl) ⟨by decide, by decide, by omega, by omega⟩) (fun r2 M1 h2 => ?_)
    refine z_icmp_eq_t (tgt := 1091) B0 dL_law_934 (by decide) h2.1.symm ?_
    have h3 : (fi S1.1 0).toInt ≤ (fi S.1 0).toInt + 20 := h2.2.2
    exact fin S1 M1 _ _ h2.2.1 (by omega) (by omega)
  · refine z_aload_n B0 dL_law_880 rfl rfl ?_
    refine z_aload_n B0 dL_law_881 rfl rfl ?_
    refine z_iload_n B0 dL_law_882 rfl rfl ?_
    refine z_iconst (v := 1) B0 dL_law_883 (by decide) ?_
    refine z_iadd (v := nI (6 * k + 1)) B0 dL_law_884 (nI_add (6 * k) 1) ?_
    refine y_sld (j := 6 * k + 1) (v := xs (6 * k + 1)) B0 hX hbl (zx_n (by omega) (Nat.lt_of_le_of_lt hL (by decide))) rfl dL_law_885 ?_
    refine z_aload_n B0 dL_law_886 rfl rfl ?_
    refine z_iload_n B0 dL_law_887 rfl rfl ?_
    refine z_iconst (v := 2) B0 dL_law_888 (by decide) ?_
    refine z_iadd (v := nI (6 * k + 2)) B0 dL_law_889 (nI_add (6 * k) 2) ?_
    refine y_sld (j := 6 * k + 2) (v := xs (6 * k + 2)) B0 hX hbl (zx_n (by omega) (Nat.lt_of_le_of_lt hL (by decide))) rfl dL_law_890 ?_
    refine z_aload_n B0 dL_law_891 rfl rfl ?_
    refine z_iload_n B0 dL_law_892 rfl rfl ?_
    refine z_iconst (v := 3) B0 dL_law_893 (by decide) ?_
    refine z_iadd (v := nI (6 * k + 3)) B0 dL_law_894 (nI_add (6 * k) 3) ?_
    refine y_sld (j := 6 * k + 3) (v := xs (6 * k + 3)) B0 hX hbl (zx_n (by omega) (Nat.lt_of_le_of_lt hL (by decide))) rfl dL_law_895 ?_
    refine z_if_eq_f (tgt := 903) B0 dL_law_896 (by decide) hb ?_
    refine z_iconst (v := 1) B0 dL_law_899 (by decide) ?_
    refine z_goto (tgt := 904) B0 dL_law_900 (by decide) ?_
    refine z_callL B0 (z_runV (q0 := 0) (As := [.int (xs (6 * k + 1)), .int (xs (6 * k + 2)), .int 1]) (st := []) B0 (k_X11_met (a := a) hrw S (xs (6 * k + 1)) (xs (6 * k + 2)) 1 _ (j_met hJ (xs (6 * k + 1)) (xs (6 * k + 2)) 1)) cf_X11_met (kw_0 cy a rw S) rfl wm_L_104 wi_X11_met ws_X11_met dL_law_904 rfl (Nat.le_of_ble_eq_true rfl) ⟨by decide, by decide, by omega, by omega⟩) (fun r1 S1 h1 => ?_)
    refine z_aload_n B0 dL_law_907 rfl rfl ?_
    refine z_aload_n B0 dL_law_908 rfl rfl ?_
    refine z_iload_n B0 dL_law_909 rfl rfl ?_
    refine z_iconst (v := 1) B0 dL_law_910 (by decide) ?_
    refine z_iadd (v := nI (6 * k + 1)) B0 dL_law_911 (nI_add (6 * k) 1) ?_
    refine y_sld (j := 6 * k + 1) (v := xs (6 * k + 1)) B0 hX hbl (zx_n (by omega) (Nat.lt_of_le_of_lt hL (by decide))) rfl dL_law_912 ?_
    refine z_aload_n B0 dL_law_913 rfl rfl ?_
    refine z_iload_n B0 dL_law_914 rfl rfl ?_
    refine z_iconst (v := 2) B0 dL_law_915 (by decide) ?_
    refine z_iadd (v := nI (6 * k + 2)) B0 dL_law_916 (nI_add (6 * k) 2) ?_
    refine y_sld (j := 6 * k + 2) (v := xs (6 * k + 2)) B0 hX hbl (zx_n (by omega) (Nat.lt_of_le_of_lt hL (by decide))) rfl dL_law_917 ?_
    refine z_aload_n B0 dL_law_918 rfl rfl ?_
    refine z_iload_n B0 dL_law_919 rfl rfl ?_
    refine z_iconst (v := 3) B0 dL_law_920 (by decide) ?_
    refine z_iadd (v := nI (6 * k + 3)) B0 dL_law_921 (nI_add (6 * k) 3) ?_
    refine y_sld (j := 6 * k + 3) (v := xs (6 * k + 3)) B0 hX hbl (zx_n (by omega) (Nat.lt_of_le_of_lt hL (by decide))) rfl dL_law_922 ?_
    refine z_if_eq_f (tgt := 930) B0 dL_law_923 (by decide) hb ?_
    refine z_iconst (v := 1) B0 dL_law_926 (by decide) ?_
    refine z_goto (tgt := 931) B0 dL_law_927 (by decide) ?_
    refine z_callL B0 (z_runV (q0 := 0) (As := [.int (xs (6 * k + 1)), .int (xs (6 * k + 2)), .int 1]) (st := [.int r1]) B0 (k_X12_met (a := a2) M (xs (6 * k + 1)) (xs (6 * k + 2)) 1 _ h1) cf_X12_met (mw_0 cy a2 M) rfl wm_L_108 wi_X12_met ws_X12_met dL_law_931 rfl (Nat.le_of_ble_eq_true rfl) ⟨by decide, by decide, by omega, by omega⟩) (fun r2 M1 h2 => ?_)
    refine z_icmp_eq_t (tgt := 1091) B0 dL_law_934 (by decide) h2.1.symm ?_
    have h3 : (fi S1.1 0).toInt ≤ (fi S.1 0).toInt + 20 := h2.2.2
    exact fin S1 M1 _ _ h2.2.1 (by omega) (by omega)
set_option maxHeartbeats 4000000 in
set_option maxRecDepth 100000 in
theorem lo_gain {p : Program} {l : Launch} {e : Env} {s : State} {m : MethodId} {below : List Frame} {meth : Method} {c : Code} {D : va_G} {cy : Nat → ClassId} {tB tE b : Nat} {a a2 : Nat → Nat} {rw : Nat → Option Nat} {xs : Nat → Int32} {L k nc ns : Nat} {S : KS} {M : GS} (B0 : Bz p room_1 s m #[Value.ref b] meth c D cy s.heap.size tB tE (fun q => s.heap.size ≤ q) 4 cL_law RL meth.sig.returnType meth.name 2048 84000 600000 7302250) (hX : va_X b L xs s s.heap) (hbl : b < s.heap.size) (hrw : ∀ i, i < 6 → rw i = some (a (12 + 2 * i))) (hL : L ≤ 3072) (hk : 6 * k + 6 ≤ L) (hm : nc ≤ 300000 ∧ ns ≤ 5000000) (hJ : JI cy tE S M) (fin : ∀ (S1 : KS) (M1 : GS) (nc1 ns1 : Nat), JI cy tE S1 M1 → nc1 ≤ nc + 259 → ns1 + 77 * (fi S1.1 0).toInt.toNat ≤ ns + 77 * (fi S.1 0).toInt.toNat + 2688 → Z p l e room_1 s m #[Value.ref b] below meth c D (fun q => s.heap.size ≤ q) 4 (lw_Z below #[Value.ref b] s) nc1 ns1 (kw cy a rw S1 ++ mw cy a2 M1) [(3, .int (nI (6 * k))), (2, .ref (a2 0)), (1, .ref (a 0)), (0, .ref b)] 1091 []) : Z p l e room_1 s m #[Value.ref b] below meth c D (fun q => s.heap.size ≤ q) 4 (lw_Z below #[Value.ref b] s) nc ns (kw cy a rw S ++ mw cy a2 M) [(3, .int (nI (6 * k))), (2, .ref (a2 0)), (1, .ref (a 0)), (0, .ref b)] 939 [] := by
  refine z_aload_n B0 dL_law_939 rfl rfl ?_
  refine z_aload_n B0 dL_law_940 rfl rfl ?_
  refine z_iload_n B0 dL_law_941 rfl rfl ?_
  refine z_iconst (v := 1) B0 dL_law_942 (by decide) ?_
  refine z_iadd (v := nI (6 * k + 1)) B0 dL_law_943 (nI_add (6 * k) 1) ?_
  refine y_sld (j := 6 * k + 1) (v := xs (6 * k + 1)) B0 hX hbl (zx_n (by omega) (Nat.lt_of_le_of_lt hL (by decide))) rfl dL_law_944 ?_
  refine z_aload_n B0 dL_law_945 rfl rfl ?_
  refine z_iload_n B0 dL_law_946 rfl rfl ?_
  refine z_iconst (v := 2) B0 dL_law_947 (by decide) ?_
  refine z_iadd (v := nI (6 * k + 2)) B0 dL_law_948 (nI_add (6 * k) 2) ?_
  refine y_sld (j := 6 * k + 2) (v := xs (6 * k + 2)) B0 hX hbl (zx_n (by omega) (Nat.lt_of_le_of_lt hL (by decide))) rfl dL_law_949 ?_
  refine z_aload_n B0 dL_law_950 rfl rfl ?_
  refine z_iload_n B0 dL_law_951 rfl rfl ?_
  refine z_iconst (v := 3) B0 dL_law_952 (by decide) ?_
  refine z_iadd (v := nI (6 * k + 3)) B0 dL_law_953 (nI_add (6 * k) 3) ?_
  refine y_sld (j := 6 * k + 3) (v := xs (6 * k + 3)) B0 hX hbl (zx_n (by omega) (Nat.lt_of_le_of_lt hL (by decide))) rfl dL_law_954 ?_
  refine z_aload_n B0 dL_law_955 rfl rfl ?_
  refine z_iload_n B0 dL_law_956 rfl rfl ?_
  refine z_iconst (v := 4) B0 dL_law_957 (by decide) ?_
  refine z_iadd (v := nI (6 * k + 4)) B0 dL_law_958 (nI_add (6 * k) 4) ?_
  refine y_sld (j := 6 * k + 4) (v := xs (6 * k + 4)) B0 hX hbl (zx_n (by omega) (Nat.lt_of_le_of_lt hL (by decide))) rfl dL_law_959 ?_
  refine z_callL B0 (z_runV (q0 := 0) (As := [.int (xs (6 * k + 1)), .int (xs (6 * k + 2)), .int (xs (6 * k + 3)), .int (xs (6 * k + 4))]) (st := []) B0 (k_X11_gain (a := a) hrw S (xs (6 * k + 1)) (xs (6 * k + 2)) (xs (6 * k + 3)) (xs (6 * k + 4)) _ (j_gain hJ (xs (6 * k + 1)) (xs (6 * k + 2)) (xs (6 * k + 3)) (xs (6 * k + 4)))) cf_X11_gain (kw_0 cy a rw S) rfl wm_L_109 wi_X11_gain ws_X11_gain dL_law_960 rfl (Nat.le_of_ble_eq_true rfl) ⟨by decide, by decide, by omega, by omega⟩) (fun r1 S1 h1 => ?_)
  refine z_pop B0 dL_law_963 rfl ?_
  refine z_aload_n B0 dL_law_964 rfl rfl ?_
  refine z_aload_n B0 dL_law_965 rfl rfl ?_
  refine z_iload_n B0 dL_law_966 rfl rfl ?_
  refine z_iconst (v := 1) B0 dL_law_967 (by decide) ?_
  refine z_iadd (v := nI (6 * k + 1)) B0 dL_law_968 (nI_add (6 * k) 1) ?_
  refine y_sld (j := 6 * k + 1) (v := xs (6 * k + 1)) B0 hX hbl (zx_n (by omega) (Nat.lt_of_le_of_lt hL (by decide))) rfl dL_law_969 ?_
  refine z_aload_n B0 dL_law_970 rfl rfl ?_
  refine z_iload_n B0 dL_law_971 rfl rfl ?_
  refine z_iconst (v := 2) B0 dL_law_972 (by decide) ?_
  refine z_iadd (v := nI (6 * k + 2)) B0 dL_law_973 (nI_add (6 * k) 2) ?_
  refine y_sld (j := 6 * k + 2) (v := xs (6 * k + 2)) B0 hX hbl (zx_n (by omega) (Nat.lt_of_le_of_lt hL (by decide))) rfl dL_law_974 ?_
  refine z_aload_n B0 dL_law_975 rfl rfl ?_
  refine z_iload_n B0 dL_law_976 rfl rfl ?_
  refine z_iconst (v := 3) B0 dL_law_977 (by decide) ?_
  refine z_iadd (v := nI (6 * k + 3)) B0 dL_law_978 (nI_add (6 * k) 3) ?_
  refine y_sld (j := 6 * k + 3) (v := xs (6 * k + 3)) B0 hX hbl (zx_n (by omega) (Nat.lt_of_le_of_lt hL (by decide))) rfl dL_law_979 ?_
  refine z_aload_n B0 dL_law_980 rfl rfl ?_
  refine z_iload_n B0 dL_law_981 rfl rfl ?_
  refine z_iconst (v := 4) B0 dL_law_982 (by decide) ?_
  refine z_iadd (v := nI (6 * k + 4)) B0 dL_law_983 (nI_add (6 * k) 4) ?_
  refine y_sld (j := 6 * k + 4) (v := xs (6 * k + 4)) B0 hX hbl (zx_n (by omega) (Nat.lt_of_le_of_lt hL (by decide))) rfl dL_law_984 ?_
  refine z_callL B0 (z_runV (q0 := 0) (As := [.int (xs (6 * k + 1)), .int (xs (6 * k + 2)), .int (xs (6 * k + 3)), .int (xs (6 * k + 4))]) (st := []) B0 (k_X12_gain (a := a2) M (xs (6 * k + 1)) (xs (6 * k + 2)) (xs (6 * k + 3)) (xs (6 * k + 4)) _ h1) cf_X12_gain (mw_0 cy a2 M) rfl wm_L_112 wi_X12_gain ws_X12_gain dL_law_985 rfl (Nat.le_of_ble_eq_true rfl) ⟨by decide, by decide, by omega, by omega⟩) (fun r2 M1 h2 => ?_)
  refine z_pop B0 dL_law_988 rfl ?_
  refine z_goto (tgt := 1091) B0 dL_law_989 (by decide) ?_
  have h3 : (fi S1.1 0).toInt ≤ (fi S.1 0).toInt + 20 := h2.2
  exact fin S1 M1 _ _ h2.1 (by omega) (by omega)
set_option maxHeartbeats 4000000 in
set_option maxRecDepth 100000 in
theorem lo_stop {p : Program} {l : Launch} {e : Env} {s : State} {m : MethodId} {below : List Frame} {meth : Method} {c : Code} {D : va_G} {cy : Nat → ClassId} {tB tE b : Nat} {a a2 : Nat → Nat} {rw : Nat → Option Nat} {xs : Nat → Int32} {L k nc ns : Nat} {S : KS} {M : GS} (B0 : Bz p room_1 s m #[Value.ref b] meth c D cy s.heap.size tB tE (fun q => s.heap.size ≤ q) 4 cL_law RL meth.sig.returnType meth.name 2048 84000 600000 7302250) (hX : va_X b L xs s s.heap) (hbl : b < s.heap.size) (hrw : ∀ i, i < 6 → rw i = some (a (12 + 2 * i))) (hL : L ≤ 3072) (hk : 6 * k + 6 ≤ L) (hm : nc ≤ 300000 ∧ ns ≤ 5000000) (hJ : JI cy tE S M) (fin : ∀ (S1 : KS) (M1 : GS) (nc1 ns1 : Nat), JI cy tE S1 M1 → nc1 ≤ nc + 259 → ns1 + 77 * (fi S1.1 0).toInt.toNat ≤ ns + 77 * (fi S.1 0).toInt.toNat + 2688 → Z p l e room_1 s m #[Value.ref b] below meth c D (fun q => s.heap.size ≤ q) 4 (lw_Z below #[Value.ref b] s) nc1 ns1 (kw cy a rw S1 ++ mw cy a2 M1) [(3, .int (nI (6 * k))), (2, .ref (a2 0)), (1, .ref (a 0)), (0, .ref b)] 1091 []) : Z p l e room_1 s m #[Value.ref b] below meth c D (fun q => s.heap.size ≤ q) 4 (lw_Z below #[Value.ref b] s) nc ns (kw cy a rw S ++ mw cy a2 M) [(3, .int (nI (6 * k))), (2, .ref (a2 0)), (1, .ref (a 0)), (0, .ref b)] 992 [] := by
  refine z_aload_n B0 dL_law_992 rfl rfl ?_
  refine z_aload_n B0 dL_law_993 rfl rfl ?_
  refine z_iload_n B0 dL_law_994 rfl rfl ?_
  refine z_iconst (v := 1) B0 dL_law_995 (by decide) ?_
  refine z_iadd (v := nI (6 * k + 1)) B0 dL_law_996 (nI_add (6 * k) 1) ?_
  refine y_sld (j := 6 * k + 1) (v := xs (6 * k + 1)) B0 hX hbl (zx_n (by omega) (Nat.lt_of_le_of_lt hL (by decide))) rfl dL_law_997 ?_
  refine z_aload_n B0 dL_law_998 rfl rfl ?_
  refine z_iload_n B0 dL_law_999 rfl rfl ?_
  refine z_iconst (v := 2) B0 dL_law_1000 (by decide) ?_
  refine z_iadd (v := nI (6 * k + 2)) B0 dL_law_1001 (nI_add (6 * k) 2) ?_
  refine y_sld (j := 6 * k + 2) (v := xs (6 * k + 2)) B0 hX hbl (zx_n (by omega) (Nat.lt_of_le_of_lt hL (by decide))) rfl dL_law_1002 ?_
  refine z_aload_n B0 dL_law_1003 rfl rfl ?_
  refine z_iload_n B0 dL_law_1004 rfl rfl ?_
  refine z_iconst (v := 3) B0 dL_law_1005 (by decide) ?_
  refine z_iadd (v := nI (6 * k + 3)) B0 dL_law_1006 (nI_add (6 * k) 3) ?_
  refine y_sld (j := 6 * k + 3) (v := xs (6 * k + 3)) B0 hX hbl (zx_n (by omega) (Nat.lt_of_le_of_lt hL (by decide))) rfl dL_law_1007 ?_
  refine z_callL B0 (z_runV (q0 := 0) (As := [.int (xs (6 * k + 1)), .int (xs (6 * k + 2)), .int (xs (6 * k + 3))]) (st := []) B0 (k_X11_stop (a := a) hrw S (xs (6 * k + 1)) (xs (6 * k + 2)) (xs (6 * k + 3)) _ (j_stop hJ (xs (6 * k + 1)) (xs (6 * k + 2)) (xs (6 * k + 3)))) cf_X11_stop (kw_0 cy a rw S) rfl wm_L_113 wi_X11_stop ws_X11_stop dL_law_1008 rfl (Nat.le_of_ble_eq_true rfl) ⟨by decide, by decide, by omega, by omega⟩) (fun r1 S1 h1 => ?_)
  refine z_pop B0 dL_law_1011 rfl ?_
  refine z_aload_n B0 dL_law_1012 rfl rfl ?_
  refine z_aload_n B0 dL_law_1013 rfl rfl ?_
  refine z_iload_n B0 dL_law_1014 rfl rfl ?_
  refine z_iconst (v := 1) B0 dL_law_1015 (by decide) ?_
  refine z_iadd (v := nI (6 * k + 1)) B0 dL_law_1016 (nI_add (6 * k) 1) ?_
  refine y_sld (j := 6 * k + 1) (v := xs (6 * k + 1)) B0 hX hbl (zx_n (by omega) (Nat.lt_of_le_of_lt hL (by decide))) rfl dL_law_1017 ?_
  refine z_aload_n B0 dL_law_1018 rfl rfl ?_
  refine z_iload_n B0 dL_law_1019 rfl rfl ?_
  refine z_iconst (v := 2) B0 dL_law_1020 (by decide) ?_
  refine z_iadd (v := nI (6 * k + 2)) B0 dL_law_1021 (nI_add (6 * k) 2) ?_
  refine y_sld (j := 6 * k + 2) (v := xs (6 * k + 2)) B0 hX hbl (zx_n (by omega) (Nat.lt_of_le_of_lt hL (by decide))) rfl dL_law_1022 ?_
  refine z_aload_n B0 dL_law_1023 rfl rfl ?_
  refine z_iload_n B0 dL_law_1024 rfl rfl ?_
  refine z_iconst (v := 3) B0 dL_law_1025 (by decide) ?_
  refine z_iadd (v := nI (6 * k + 3)) B0 dL_law_1026 (nI_add (6 * k) 3) ?_
  refine y_sld (j := 6 * k + 3) (v := xs (6 * k + 3)) B0 hX hbl (zx_n (by omega) (Nat.lt_of_le_of_lt hL (by decide))) rfl dL_law_1027 ?_
  refine z_callL B0 (z_runV (q0 := 0) (As := [.int (xs (6 * k + 1)), .int (xs (6 * k + 2)), .int (xs (6 * k + 3))]) (st := []) B0 (k_X12_stop (a := a2) M (xs (6 * k + 1)) (xs (6 * k + 2)) (xs (6 * k + 3)) _ h1) cf_X12_stop (mw_0 cy a2 M) rfl wm_L_116 wi_X12_stop ws_X12_stop dL_law_1028 rfl (Nat.le_of_ble_eq_true rfl) ⟨by decide, by decide, by omega, by omega⟩) (fun r2 M1 h2 => ?_)
  refine z_pop B0 dL_law_1031 rfl ?_
  refine z_goto (tgt := 1091) B0 dL_law_1032 (by decide) ?_
  have h3 : (fi S1.1 0).toInt ≤ (fi S.1 0).toInt + 20 := h2.2.2
  exact fin S1 M1 _ _ h2.2.1 (by omega) (by omega)
set_option maxHeartbeats 4000000 in
set_option maxRecDepth 100000 in
theorem lo_past {p : Program} {l : Launch} {e : Env} {s : State} {m : MethodId} {below : List Frame} {meth : Method} {c : Code} {D : va_G} {cy : Nat → ClassId} {tB tE b : Nat} {a a2 : Nat → Nat} {rw : Nat → Option Nat} {xs : Nat → Int32} {L k nc ns : Nat} {S : KS} {M : GS} (B0 : Bz p room_1 s m #[Value.ref b] meth c D cy s.heap.size tB tE (fun q => s.heap.size ≤ q) 4 cL_law RL meth.sig.returnType meth.name 2048 84000 600000 7302250) (hX : va_X b L xs s s.heap) (hbl : b < s.heap.size) (hrw : ∀ i, i < 6 → rw i = some (a (12 + 2 * i))) (hL : L ≤ 3072) (hk : 6 * k + 6 ≤ L) (hm : nc ≤ 300000 ∧ ns ≤ 5000000) (hJ : JI cy tE S M) (fin : ∀ (S1 : KS) (M1 : GS) (nc1 ns1 : Nat), JI cy tE S1 M1 → nc1 ≤ nc + 259 → ns1 + 77 * (fi S1.1 0).toInt.toNat ≤ ns + 77 * (fi S.1 0).toInt.toNat + 2688 → Z p l e room_1 s m #[Value.ref b] below meth c D (fun q => s.heap.size ≤ q) 4 (lw_Z below #[Value.ref b] s) nc1 ns1 (kw cy a rw S1 ++ mw cy a2 M1) [(3, .int (nI (6 * k))), (2, .ref (a2 0)), (1, .ref (a 0)), (0, .ref b)] 1091 []) : Z p l e room_1 s m #[Value.ref b] below meth c D (fun q => s.heap.size ≤ q) 4 (lw_Z below #[Value.ref b] s) nc ns (kw cy a rw S ++ mw cy a2 M) [(3, .int (nI (6 * k))), (2, .ref (a2 0)), (1, .ref (a 0)), (0, .ref b)] 1035 [] := by
  refine z_aload_n B0 dL_law_1035 rfl rfl ?_
  refine z_aload_n B0 dL_law_1036 rfl rfl ?_
  refine z_iload_n B0 dL_law_1037 rfl rfl ?_
  refine z_iconst (v := 1) B0 dL_law_1038 (by decide) ?_
  refine z_iadd (v := nI (6 * k + 1)) B0 dL_law_1039 (nI_add (6 * k) 1) ?_
  refine y_sld (j := 6 * k + 1) (v := xs (6 * k + 1)) B0 hX hbl (zx_n (by omega) (Nat.lt_of_le_of_lt hL (by decide))) rfl dL_law_1040 ?_
  refine z_callL B0 (z_runV (q0 := 0) (As := [.int (xs (6 * k + 1))]) (st := []) B0 (k_X11_past (a := a) hrw S (xs (6 * k + 1)) _ (j_past hJ (xs (6 * k + 1)))) cf_X11_past (kw_0 cy a rw S) rfl wm_L_117 wi_X11_past ws_X11_past dL_law_1041 rfl (Nat.le_of_ble_eq_true rfl) ⟨by decide, by decide, by omega, by omega⟩) (fun r1 S1 h1 => ?_)
  refine z_pop B0 dL_law_1044 rfl ?_
  refine z_aload_n B0 dL_law_1045 rfl rfl ?_
  refine z_aload_n B0 dL_law_1046 rfl rfl ?_
  refine z_iload_n B0 dL_law_1047 rfl rfl ?_
  refine z_iconst (v := 1) B0 dL_law_1048 (by decide) ?_
  refine z_iadd (v := nI (6 * k + 1)) B0 dL_law_1049 (nI_add (6 * k) 1) ?_
  refine y_sld (j := 6 * k + 1) (v := xs (6 * k + 1)) B0 hX hbl (zx_n (by omega) (Nat.lt_of_le_of_lt hL (by decide))) rfl dL_law_1050 ?_
  refine z_callL B0 (z_runV (q0 := 0) (As := [.int (xs (6 * k + 1))]) (st := []) B0 (k_X12_past (a := a2) M (xs (6 * k + 1)) _ h1) cf_X12_past (mw_0 cy a2 M) rfl wm_L_120 wi_X12_past ws_X12_past dL_law_1051 rfl (Nat.le_of_ble_eq_true rfl) ⟨by decide, by decide, by omega, by omega⟩) (fun r2 M1 h2 => ?_)
  refine z_pop B0 dL_law_1054 rfl ?_
  refine z_goto (tgt := 1091) B0 dL_law_1055 (by decide) ?_
  have h3 : (fi S1.1 0).toInt ≤ (fi S.1 0).toInt + 20 := h2.2.2
  exact fin S1 M1 _ _ h2.2.1 (by omega) (by omega)
set_option maxHeartbeats 4000000 in
set_option maxRecDepth 100000 in
theorem lo_through {p : Program} {l : Launch} {e : Env} {s : State} {m : MethodId} {below : List Frame} {meth : Method} {c : Code} {D : va_G} {cy : Nat → ClassId} {tB tE b : Nat} {a a2 : Nat → Nat} {rw : Nat → Option Nat} {xs : Nat → Int32} {L k nc ns : Nat} {S : KS} {M : GS} (B0 : Bz p room_1 s m #[Value.ref b] meth c D cy s.heap.size tB tE (fun q => s.heap.size ≤ q) 4 cL_law RL meth.sig.returnType meth.name 2048 84000 600000 7302250) (hX : va_X b L xs s s.heap) (hbl : b < s.heap.size) (hrw : ∀ i, i < 6 → rw i = some (a (12 + 2 * i))) (hL : L ≤ 3072) (hk : 6 * k + 6 ≤ L) (hm : nc ≤ 300000 ∧ ns ≤ 5000000) (hJ : JI cy tE S M) (fin : ∀ (S1 : KS) (M1 : GS) (nc1 ns1 : Nat), JI cy tE S1 M1 → nc1 ≤ nc + 259 → ns1 + 77 * (fi S1.1 0).toInt.toNat ≤ ns + 77 * (fi S.1 0).toInt.toNat + 2688 → Z p l e room_1 s m #[Value.ref b] below meth c D (fun q => s.heap.size ≤ q) 4 (lw_Z below #[Value.ref b] s) nc1 ns1 (kw cy a rw S1 ++ mw cy a2 M1) [(3, .int (nI (6 * k))), (2, .ref (a2 0)), (1, .ref (a 0)), (0, .ref b)] 1091 []) : Z p l e room_1 s m #[Value.ref b] below meth c D (fun q => s.heap.size ≤ q) 4 (lw_Z below #[Value.ref b] s) nc ns (kw cy a rw S ++ mw cy a2 M) [(3, .int (nI (6 * k))), (2, .ref (a2 0)), (1, .ref (a 0)), (0, .ref b)] 1058 [] := by
  refine z_aload_n B0 dL_law_1058 rfl rfl ?_
  refine z_aload_n B0 dL_law_1059 rfl rfl ?_
  refine z_iload_n B0 dL_law_1060 rfl rfl ?_
  refine z_iconst (v := 1) B0 dL_law_1061 (by decide) ?_
  refine z_iadd (v := nI (6 * k + 1)) B0 dL_law_1062 (nI_add (6 * k) 1) ?_
  refine y_sld (j := 6 * k + 1) (v := xs (6 * k + 1)) B0 hX hbl (zx_n (by omega) (Nat.lt_of_le_of_lt hL (by decide))) rfl dL_law_1063 ?_
  refine z_aload_n B0 dL_law_1064 rfl rfl ?_
  refine z_iload_n B0 dL_law_1065 rfl rfl ?_
  refine z_iconst (v := 2) B0 dL_law_1066 (by decide) ?_
  refine z_iadd (v := nI (6 * k + 2)) B0 dL_law_1067 (nI_add (6 * k) 2) ?_
  refine y_sld (j := 6 * k + 2) (v := xs (6 * k + 2)) B0 hX hbl (zx_n (by omega) (Nat.lt_of_le_of_lt hL (by decide))) rfl dL_law_1068 ?_
  refine z_callL B0 (z_runV (q0 := 0) (As := [.int (xs (6 * k + 1)), .int (xs (6 * k + 2))]) (st := []) B0 (k_X11_through (a := a) hrw S (xs (6 * k + 1)) (xs (6 * k + 2)) _ (j_through hJ (xs (6 * k + 1)) (xs (6 * k + 2)))) cf_X11_through (kw_0 cy a rw S) rfl wm_L_121 wi_X11_through ws_X11_through dL_law_1069 rfl (Nat.le_of_ble_eq_true rfl) ⟨by decide, by decide, by omega, by omega⟩) (fun r1 S1 h1 => ?_)
  refine z_pop B0 dL_law_1072 rfl ?_
  refine z_aload_n B0 dL_law_1073 rfl rfl ?_
  refine z_aload_n B0 dL_law_1074 rfl rfl ?_
  refine z_iload_n B0 dL_law_1075 rfl rfl ?_
  refine z_iconst (v := 1) B0 dL_law_1076 (by decide) ?_
  refine z_iadd (v := nI (6 * k + 1)) B0 dL_law_1077 (nI_add (6 * k) 1) ?_
  refine y_sld (j := 6 * k + 1) (v := xs (6 * k + 1)) B0 hX hbl (zx_n (by omega) (Nat.lt_of_le_of_lt hL (by decide))) rfl dL_law_1078 ?_
  refine z_aload_n B0 dL_law_1079 rfl rfl ?_
  refine z_iload_n B0 dL_law_1080 rfl rfl ?_
  refine z_iconst (v := 2) B0 dL_law_1081 (by decide) ?_
  refine z_iadd (v := nI (6 * k + 2)) B0 dL_law_1082 (nI_add (6 * k) 2) ?_
  refine y_sld (j := 6 * k + 2) (v := xs (6 * k + 2)) B0 hX hbl (zx_n (by omega) (Nat.lt_of_le_of_lt hL (by decide))) rfl dL_law_1083 ?_
  refine z_callL B0 (z_runV (q0 := 0) (As := [.int (xs (6 * k + 1)), .int (xs (6 * k + 2))]) (st := []) B0 (k_X12_through (a := a2) M (xs (6 * k + 1)) (xs (6 * k + 2)) _ h1) cf_X12_through (mw_0 cy a2 M) rfl wm_L_124 wi_X12_through ws_X12_through dL_law_1084 rfl (Nat.le_of_ble_eq_true rfl) ⟨by decide, by decide, by omega, by omega⟩) (fun r2 M1 h2 => ?_)
  refine z_pop B0 dL_law_1087 rfl ?_
  refine z_goto (tgt := 1091) B0 dL_law_1088 (by decide) ?_
  have h3 : (fi S1.1 0).toInt ≤ (fi S.1 0).toInt + 20 := h2.2.2
  exact fin S1 M1 _ _ h2.2.1 (by omega) (by omega)
