def w_X5_readOperand_B202 (cy : Nat → ClassId) (tE : Nat) (post : Int32 → KS → Prop) (S : KS) (x1 : Int32) (x2 : Int32) (y0 : Int32) : Prop :=
  (y0 = 0 ∨ y0 = 1) ∧ w_X5_emit cy tE (ksi S 18 y0) x1 x2 (fun S7 => post 1 S7)

set_option maxHeartbeats 200000 in
set_option maxRecDepth 100000 in
theorem z_X5_readOperand_B202 {p : Program} {l : Launch} {e : Env} {R : Room} {s : State} {m : MethodId} {args : Array Value} {below : List Frame} {meth : Method} {c : Code} {D : va_G} {cy : Nat → ClassId} {T0 tB tE : Nat} {A : Nat → Prop} {a : Nat → Nat} {rw : Nat → Option Nat} (hrw : ∀ i, i < 6 → rw i = some (a (12 + 2 * i))) {post : Int32 → KS → Prop} (b : Bz p R s m args meth c D cy T0 tB tE A 3 cX5_readOperand RX5 (some .boolean) "readOperand" 2 43 0 0) (S : KS) (x1 : Int32) (x2 : Int32) (y0 : Int32) (h : w_X5_readOperand_B202 cy tE post S x1 x2 y0) : Z p l e R s m args below meth c D A 3 (MQ below (QI D (U := KS) post (kw cy a rw) A) args s 0 0 A) 0 0 (kw cy a rw S) [(0, .ref (a 26)), (1, .int x1), (2, .int x2)] 202 [.int y0, .ref (a 26)] := by
  unfold w_X5_readOperand_B202 at h
  obtain ⟨g5, h⟩ := h
  refine z_put (q0 := 26) (k9 := 5) tyX5 b (kw_26 cy a rw S) rfl in_X5 tyX5_ok nmX5 (by decide) wf_X5_33 rfl rfl (z_bool g5) (z_boolf g5) (Nat.le_of_ble_eq_true rfl) dX5_readOperand_202 (kwp_26_5 cy a rw S y0) ?_
  refine z_aload_n b dX5_readOperand_205 rfl rfl ?_
  refine z_iload_n b dX5_readOperand_206 rfl rfl ?_
  refine z_iload_n b dX5_readOperand_207 rfl rfl ?_
  refine z_callv b (z_runV (q0 := 26) (As := [.int x1, .int x2]) (st := []) b (k_X5_emit hrw (ksi S 18 y0) x1 x2 _ h) cf_X5_emit (kw_26 cy a rw (ksi S 18 y0)) rfl wm_X5_147 wi_X5_emit ws_X5_emit dX5_readOperand_208 rfl (Nat.le_of_ble_eq_true rfl) ⟨by decide, by decide, Nat.le_of_ble_eq_true rfl, Nat.le_of_ble_eq_true rfl⟩) (fun S7 h => ?_)
  refine z_iconst (v := 1) b dX5_readOperand_211 (by decide) ?_
  exact z_zret (u := S7) b rfl (by decide) dX5_readOperand_212 h rfl (by decide) (by decide)

def w_X5_readOperand_B197 (cy : Nat → ClassId) (tE : Nat) (post : Int32 → KS → Prop) (S : KS) (x1 : Int32) (x2 : Int32) : Prop :=
  w_X5_readOperand_B202 cy tE post S x1 x2 1

set_option maxHeartbeats 200000 in
set_option maxRecDepth 100000 in
theorem z_X5_readOperand_B197 {p : Program} {l : Launch} {e : Env} {R : Room} {s : State} {m : MethodId} {args : Array Value} {below : List Frame} {meth : Method} {c : Code} {D : va_G} {cy : Nat → ClassId} {T0 tB tE : Nat} {A : Nat → Prop} {a : Nat → Nat} {rw : Nat → Option Nat} (hrw : ∀ i, i < 6 → rw i = some (a (12 + 2 * i))) {post : Int32 → KS → Prop} (b : Bz p R s m args meth c D cy T0 tB tE A 3 cX5_readOperand RX5 (some .boolean) "readOperand" 2 43 0 0) (S : KS) (x1 : Int32) (x2 : Int32) (h : w_X5_readOperand_B197 cy tE post S x1 x2) : Z p l e R s m args below meth c D A 3 (MQ below (QI D (U := KS) post (kw cy a rw) A) args s 0 0 A) 0 0 (kw cy a rw S) [(0, .ref (a 26)), (1, .int x1), (2, .int x2)] 197 [.ref (a 26)] := by
  unfold w_X5_readOperand_B197 at h
  refine z_iconst (v := 1) b dX5_readOperand_197 (by decide) ?_
  refine z_goto (tgt := 202) b dX5_readOperand_198 (by decide) ?_
  exact z_X5_readOperand_B202 hrw b _ _ _ _ h

def w_X5_readOperand_B176 (cy : Nat → ClassId) (tE : Nat) (post : Int32 → KS → Prop) (S : KS) (x1 : Int32) (x2 : Int32) : Prop :=
  ((x2.toInt ≠ (-1) → (((fi S.1 18).toInt ≠ 0 → w_X5_readOperand_B197 cy tE post S x1 x2) ∧ ((fi S.1 18).toInt = 0 → ((x1.toInt ≠ 19 → w_X5_readOperand_B202 cy tE post S x1 x2 0) ∧ (x1.toInt = 19 → w_X5_readOperand_B197 cy tE post S x1 x2))))) ∧ (x2.toInt = (-1) → post 0 S))

set_option maxHeartbeats 200000 in
set_option maxRecDepth 100000 in
theorem z_X5_readOperand_B176 {p : Program} {l : Launch} {e : Env} {R : Room} {s : State} {m : MethodId} {args : Array Value} {below : List Frame} {meth : Method} {c : Code} {D : va_G} {cy : Nat → ClassId} {T0 tB tE : Nat} {A : Nat → Prop} {a : Nat → Nat} {rw : Nat → Option Nat} (hrw : ∀ i, i < 6 → rw i = some (a (12 + 2 * i))) {post : Int32 → KS → Prop} (b : Bz p R s m args meth c D cy T0 tB tE A 3 cX5_readOperand RX5 (some .boolean) "readOperand" 2 43 0 0) (S : KS) (x1 : Int32) (x2 : Int32) (h : w_X5_readOperand_B176 cy tE post S x1 x2) : Z p l e R s m args below meth c D A 3 (MQ below (QI D (U := KS) post (kw cy a rw) A) args s 0 0 A) 0 0 (kw cy a rw S) [(0, .ref (a 26)), (1, .int x1), (2, .int x2)] 176 [] := by
  unfold w_X5_readOperand_B176 at h
  refine z_iload_n b dX5_readOperand_176 rfl rfl ?_
  refine z_iconst (v := (-1)) b dX5_readOperand_177 (by decide) ?_
  refine y_icmp_ne (tgt := 183) (xl := x2.toInt) (yl := (-1)) b rfl (by decide) dX5_readOperand_178 (by decide) (fun c1 => ?_) (fun c1 => ?_)
  · replace h := h.1 c1
    refine z_aload_n b dX5_readOperand_183 rfl rfl ?_
    refine z_aload_n b dX5_readOperand_184 rfl rfl ?_
    refine z_get (q0 := 26) (k9 := 5) (v := .int (fi S.1 18)) b (kw_26 cy a rw S) rfl in_X5 (by decide) wf_X5_33 rfl dX5_readOperand_185 ?_
    refine y_if_ne (tgt := 197) (xl := (fi S.1 18).toInt) b rfl dX5_readOperand_188 (by decide) (fun c1 => ?_) (fun c1 => ?_)
    · replace h := h.1 c1
      exact z_X5_readOperand_B197 hrw b _ _ _ h
    · replace h := h.2 c1
      refine z_iload_n b dX5_readOperand_191 rfl rfl ?_
      refine z_bipush (v := 19) b dX5_readOperand_192 (by decide) ?_
      refine y_icmp_ne (tgt := 201) (xl := x1.toInt) (yl := 19) b rfl (by decide) dX5_readOperand_194 (by decide) (fun c1 => ?_) (fun c1 => ?_)
      · replace h := h.1 c1
        refine z_iconst (v := 0) b dX5_readOperand_201 (by decide) ?_
        exact z_X5_readOperand_B202 hrw b _ _ _ _ h
      · replace h := h.2 c1
        exact z_X5_readOperand_B197 hrw b _ _ _ h
  · replace h := h.2 c1
    refine z_iconst (v := 0) b dX5_readOperand_181 (by decide) ?_
    exact z_zret (u := S) b rfl (by decide) dX5_readOperand_182 h rfl (by decide) (by decide)

def w_X5_readOperand_B170 (cy : Nat → ClassId) (tE : Nat) (post : Int32 → KS → Prop) (S : KS)  : Prop :=
  w_X5_refuse cy tE S 1 (fun r8 S9 => (r8 = 0 ∨ r8 = 1) ∧ post r8 S9)

set_option maxHeartbeats 200000 in
set_option maxRecDepth 100000 in
theorem z_X5_readOperand_B170 {p : Program} {l : Launch} {e : Env} {R : Room} {s : State} {m : MethodId} {args : Array Value} {below : List Frame} {meth : Method} {c : Code} {D : va_G} {cy : Nat → ClassId} {T0 tB tE : Nat} {A : Nat → Prop} {a : Nat → Nat} {rw : Nat → Option Nat} (hrw : ∀ i, i < 6 → rw i = some (a (12 + 2 * i))) {post : Int32 → KS → Prop} (b : Bz p R s m args meth c D cy T0 tB tE A 3 cX5_readOperand RX5 (some .boolean) "readOperand" 2 43 0 0) (S : KS)  (h : w_X5_readOperand_B170 cy tE post S ) : Z p l e R s m args below meth c D A 3 (MQ below (QI D (U := KS) post (kw cy a rw) A) args s 0 0 A) 0 0 (kw cy a rw S) [(0, .ref (a 26))] 170 [] := by
  unfold w_X5_readOperand_B170 at h
  refine z_aload_n b dX5_readOperand_170 rfl rfl ?_
  refine z_iconst (v := 1) b dX5_readOperand_171 (by decide) ?_
  refine z_calli b (z_runV (q0 := 26) (As := [.int 1]) (st := []) b (k_X5_refuse hrw S 1 _ h) cf_X5_refuse (kw_26 cy a rw S) rfl wm_X5_70 wi_X5_refuse ws_X5_refuse dX5_readOperand_172 rfl (Nat.le_of_ble_eq_true rfl) ⟨by decide, by decide, Nat.le_of_ble_eq_true rfl, Nat.le_of_ble_eq_true rfl⟩) (fun r8 S9 h => ?_)
  obtain ⟨g10, h⟩ := h
  exact z_zret (u := S9) b rfl (z_bool g10) dX5_readOperand_175 h rfl (by decide) (by decide)

def w_X5_readOperand_B132 (cy : Nat → ClassId) (tE : Nat) (post : Int32 → KS → Prop) (S : KS) (x1 : Int32) : Prop :=
  w_X5_readPersons cy tE (ksi S 15 ((fi S.1 15) + 1)) 1 (fun r11 S12 => w_X5_readOperand_B176 cy tE post S12 x1 r11)

set_option maxHeartbeats 200000 in
set_option maxRecDepth 100000 in
theorem z_X5_readOperand_B132 {p : Program} {l : Launch} {e : Env} {R : Room} {s : State} {m : MethodId} {args : Array Value} {below : List Frame} {meth : Method} {c : Code} {D : va_G} {cy : Nat → ClassId} {T0 tB tE : Nat} {A : Nat → Prop} {a : Nat → Nat} {rw : Nat → Option Nat} (hrw : ∀ i, i < 6 → rw i = some (a (12 + 2 * i))) {post : Int32 → KS → Prop} (b : Bz p R s m args meth c D cy T0 tB tE A 3 cX5_readOperand RX5 (some .boolean) "readOperand" 2 43 0 0) (S : KS) (x1 : Int32) (h : w_X5_readOperand_B132 cy tE post S x1) : Z p l e R s m args below meth c D A 3 (MQ below (QI D (U := KS) post (kw cy a rw) A) args s 0 0 A) 0 0 (kw cy a rw S) [(0, .ref (a 26)), (1, .int x1)] 132 [] := by
  unfold w_X5_readOperand_B132 at h
  refine z_aload_n b dX5_readOperand_132 rfl rfl ?_
  refine z_dup b dX5_readOperand_133 rfl ?_
  refine z_get (q0 := 26) (k9 := 1) (v := .int (fi S.1 15)) b (kw_26 cy a rw S) rfl in_X5 (by decide) wf_X5_18 rfl dX5_readOperand_134 ?_
  refine z_iconst (v := 1) b dX5_readOperand_137 (by decide) ?_
  refine z_iadd b dX5_readOperand_138 rfl ?_
  refine z_put (q0 := 26) (k9 := 1) tyX5 b (kw_26 cy a rw S) rfl in_X5 tyX5_ok nmX5 (by decide) wf_X5_18 rfl rfl rfl rfl (Nat.le_of_ble_eq_true rfl) dX5_readOperand_139 (kwp_26_1 cy a rw S ((fi S.1 15) + 1)) ?_
  refine z_aload_n b dX5_readOperand_142 rfl rfl ?_
  refine z_iconst (v := 1) b dX5_readOperand_143 (by decide) ?_
  refine z_calli b (z_runV (q0 := 26) (As := [.int 1]) (st := []) b (k_X5_readPersons hrw (ksi S 15 ((fi S.1 15) + 1)) 1 _ h) cf_X5_readPersons (kw_26 cy a rw (ksi S 15 ((fi S.1 15) + 1))) rfl wm_X5_144 wi_X5_readPersons ws_X5_readPersons dX5_readOperand_144 rfl (Nat.le_of_ble_eq_true rfl) ⟨by decide, by decide, Nat.le_of_ble_eq_true rfl, Nat.le_of_ble_eq_true rfl⟩) (fun r11 S12 h => ?_)
  refine z_istore_n (lv' := [(2, .int r11), (0, .ref (a 26)), (1, .int x1)]) b dX5_readOperand_147 rfl (by decide) rfl ?_
  refine z_goto (tgt := 176) b dX5_readOperand_148 (by decide) ?_
  refine z_lv0 (lv' := [(0, .ref (a 26)), (1, .int x1), (2, .int r11)]) [1, 2, 0] rfl ?_
  exact z_X5_readOperand_B176 hrw b _ _ _ h

def w_X5_readOperand_B151 (cy : Nat → ClassId) (tE : Nat) (post : Int32 → KS → Prop) (S : KS) (x1 : Int32) : Prop :=
  w_X5_readPersons cy tE (ksi S 15 ((fi S.1 15) + 1)) 2 (fun r13 S14 => w_X5_readOperand_B176 cy tE post S14 x1 r13)

set_option maxHeartbeats 200000 in
set_option maxRecDepth 100000 in
theorem z_X5_readOperand_B151 {p : Program} {l : Launch} {e : Env} {R : Room} {s : State} {m : MethodId} {args : Array Value} {below : List Frame} {meth : Method} {c : Code} {D : va_G} {cy : Nat → ClassId} {T0 tB tE : Nat} {A : Nat → Prop} {a : Nat → Nat} {rw : Nat → Option Nat} (hrw : ∀ i, i < 6 → rw i = some (a (12 + 2 * i))) {post : Int32 → KS → Prop} (b : Bz p R s m args meth c D cy T0 tB tE A 3 cX5_readOperand RX5 (some .boolean) "readOperand" 2 43 0 0) (S : KS) (x1 : Int32) (h : w_X5_readOperand_B151 cy tE post S x1) : Z p l e R s m args below meth c D A 3 (MQ below (QI D (U := KS) post (kw cy a rw) A) args s 0 0 A) 0 0 (kw cy a rw S) [(0, .ref (a 26)), (1, .int x1)] 151 [] := by
  unfold w_X5_readOperand_B151 at h
  refine z_aload_n b dX5_readOperand_151 rfl rfl ?_
  refine z_dup b dX5_readOperand_152 rfl ?_
  refine z_get (q0 := 26) (k9 := 1) (v := .int (fi S.1 15)) b (kw_26 cy a rw S) rfl in_X5 (by decide) wf_X5_18 rfl dX5_readOperand_153 ?_
  refine z_iconst (v := 1) b dX5_readOperand_156 (by decide) ?_
  refine z_iadd b dX5_readOperand_157 rfl ?_
  refine z_put (q0 := 26) (k9 := 1) tyX5 b (kw_26 cy a rw S) rfl in_X5 tyX5_ok nmX5 (by decide) wf_X5_18 rfl rfl rfl rfl (Nat.le_of_ble_eq_true rfl) dX5_readOperand_158 (kwp_26_1 cy a rw S ((fi S.1 15) + 1)) ?_
  refine z_aload_n b dX5_readOperand_161 rfl rfl ?_
  refine z_iconst (v := 2) b dX5_readOperand_162 (by decide) ?_
  refine z_calli b (z_runV (q0 := 26) (As := [.int 2]) (st := []) b (k_X5_readPersons hrw (ksi S 15 ((fi S.1 15) + 1)) 2 _ h) cf_X5_readPersons (kw_26 cy a rw (ksi S 15 ((fi S.1 15) + 1))) rfl wm_X5_144 wi_X5_readPersons ws_X5_readPersons dX5_readOperand_163 rfl (Nat.le_of_ble_eq_true rfl) ⟨by decide, by decide, Nat.le_of_ble_eq_true rfl, Nat.le_of_ble_eq_true rfl⟩) (fun r13 S14 h => ?_)
  refine z_istore_n (lv' := [(2, .int r13), (0, .ref (a 26)), (1, .int x1)]) b dX5_readOperand_166 rfl (by decide) rfl ?_
  refine z_goto (tgt := 176) b dX5_readOperand_167 (by decide) ?_
  refine z_lv0 (lv' := [(0, .ref (a 26)), (1, .int x1), (2, .int r13)]) [1, 2, 0] rfl ?_
  exact z_X5_readOperand_B176 hrw b _ _ _ h

def w_X5_readOperand (cy : Nat → ClassId) (tE : Nat) (S : KS)  (post : Int32 → KS → Prop) : Prop :=
  w_X5_kind cy tE S (fun r1 S2 => ((r1.toInt = 2 → w_X5_value cy tE S2 (fun r3 S4 => w_X5_readOperand_B176 cy tE post (ksi S4 15 ((fi S4.1 15) + 1)) r1 ((r3 : Int64).toInt32))) ∧ (r1.toInt = 3 → w_X5_readOperand_B170 cy tE post S2) ∧ (r1.toInt = 4 → w_X5_readOperand_B170 cy tE post S2) ∧ (r1.toInt = 5 → w_X5_readOperand_B170 cy tE post S2) ∧ (r1.toInt = 6 → w_X5_readOperand_B170 cy tE post S2) ∧ (r1.toInt = 7 → w_X5_readOperand_B132 cy tE post S2 r1) ∧ (r1.toInt = 8 → w_X5_readOperand_B151 cy tE post S2 r1) ∧ (r1.toInt = 9 → w_X5_readOperand_B170 cy tE post S2) ∧ (r1.toInt = 10 → w_X5_readOperand_B170 cy tE post S2) ∧ (r1.toInt = 11 → w_X5_readOperand_B151 cy tE post S2 r1) ∧ (r1.toInt = 12 → w_X5_readOperand_B170 cy tE post S2) ∧ (r1.toInt = 13 → w_X5_readOperand_B170 cy tE post S2) ∧ (r1.toInt = 14 → w_X5_readOperand_B176 cy tE post (ksi S2 15 ((fi S2.1 15) + 1)) r1 0) ∧ (r1.toInt = 15 → w_X5_readOperand_B170 cy tE post S2) ∧ (r1.toInt = 16 → w_X5_readOperand_B170 cy tE post S2) ∧ (r1.toInt = 17 → w_X5_readOperand_B170 cy tE post S2) ∧ (r1.toInt = 18 → w_X5_readOperand_B151 cy tE post S2 r1) ∧ (r1.toInt = 19 → w_X5_readOperand_B132 cy tE post S2 r1) ∧ (r1.toInt = 20 → w_X5_readOperand_B132 cy tE post S2 r1) ∧ (r1.toInt ≠ 2 ∧ r1.toInt ≠ 3 ∧ r1.toInt ≠ 4 ∧ r1.toInt ≠ 5 ∧ r1.toInt ≠ 6 ∧ r1.toInt ≠ 7 ∧ r1.toInt ≠ 8 ∧ r1.toInt ≠ 9 ∧ r1.toInt ≠ 10 ∧ r1.toInt ≠ 11 ∧ r1.toInt ≠ 12 ∧ r1.toInt ≠ 13 ∧ r1.toInt ≠ 14 ∧ r1.toInt ≠ 15 ∧ r1.toInt ≠ 16 ∧ r1.toInt ≠ 17 ∧ r1.toInt ≠ 18 ∧ r1.toInt ≠ 19 ∧ r1.toInt ≠ 20 → w_X5_readOperand_B170 cy tE post S2)))

set_option maxHeartbeats 200000 in
set_option maxRecDepth 100000 in
theorem k_X5_readOperand {l : Launch} {D : va_G} {cy : Nat → ClassId} {T0 tB tE : Nat} {a : Nat → Nat} {rw : Nat → Option Nat} (hrw : ∀ i, i < 6 → rw i = some (a (12 + 2 * i))) (S : KS)  (post : Int32 → KS → Prop) (h : w_X5_readOperand cy tE S  post) : Ct l D cy T0 tB tE yX5_readOperand cX5_readOperand 3 (some .boolean) 2 43 0 0 (kw cy a rw S) [.ref (a 26)] (QI D (U := KS) post (kw cy a rw)) := by
  refine Ct.ofZ RX5 "readOperand" [(0, .ref (a 26))] rfl rfl rfl rfl (Nat.le_of_ble_eq_true rfl) ?_
  intro p e R s m args below meth c A b
  unfold w_X5_readOperand at h
  refine z_aload_n b dX5_readOperand_0 rfl rfl ?_
  refine z_calli b (z_runV (q0 := 26) (As := []) (st := []) b (k_X5_kind hrw S _ h) cf_X5_kind (kw_26 cy a rw S) rfl wm_X5_66 wi_X5_kind ws_X5_kind dX5_readOperand_1 rfl (Nat.le_of_ble_eq_true rfl) ⟨by decide, by decide, Nat.le_of_ble_eq_true rfl, Nat.le_of_ble_eq_true rfl⟩) (fun r1 S2 h => ?_)
  refine z_istore_n (lv' := [(1, .int r1), (0, .ref (a 26))]) b dX5_readOperand_4 rfl (by decide) rfl ?_
  refine z_iconst (v := 0) b dX5_readOperand_5 (by decide) ?_
  refine z_istore_n (lv' := [(2, .int 0), (1, .int r1), (0, .ref (a 26))]) b dX5_readOperand_6 rfl (by decide) rfl ?_
  refine z_iload_n b dX5_readOperand_7 rfl rfl ?_
  by_cases e1 : r1.toInt = 2
  · replace h := h.1 e1
    refine z_eqi (y := 2) (y_eqc e1 (by decide)) ?_
    refine z_tableIn (tgt := 100) (off := 92) b dX5_readOperand_8 (by decide) (by decide) (by decide) (by decide) ?_
    refine z_aload_n b dX5_readOperand_100 rfl rfl ?_
    refine z_calll b (z_runV (q0 := 26) (As := []) (st := []) b (k_X5_value hrw S2 _ h) cf_X5_value (kw_26 cy a rw S2) rfl wm_X5_90 wi_X5_value ws_X5_value dX5_readOperand_101 rfl (Nat.le_of_ble_eq_true rfl) ⟨by decide, by decide, Nat.le_of_ble_eq_true rfl, Nat.le_of_ble_eq_true rfl⟩) (fun r3 S4 h => ?_)
    refine z_l2i b dX5_readOperand_104 rfl ?_
    refine z_istore_n (lv' := [(2, .int (r3 : Int64).toInt32), (1, .int r1), (0, .ref (a 26))]) b dX5_readOperand_105 rfl (by decide) rfl ?_
    refine z_aload_n b dX5_readOperand_106 rfl rfl ?_
    refine z_dup b dX5_readOperand_107 rfl ?_
    refine z_get (q0 := 26) (k9 := 1) (v := .int (fi S4.1 15)) b (kw_26 cy a rw S4) rfl in_X5 (by decide) wf_X5_18 rfl dX5_readOperand_108 ?_
    refine z_iconst (v := 1) b dX5_readOperand_111 (by decide) ?_
    refine z_iadd b dX5_readOperand_112 rfl ?_
    refine z_put (q0 := 26) (k9 := 1) tyX5 b (kw_26 cy a rw S4) rfl in_X5 tyX5_ok nmX5 (by decide) wf_X5_18 rfl rfl rfl rfl (Nat.le_of_ble_eq_true rfl) dX5_readOperand_113 (kwp_26_1 cy a rw S4 ((fi S4.1 15) + 1)) ?_
    refine z_goto (tgt := 176) b dX5_readOperand_116 (by decide) ?_
    refine z_lv0 (lv' := [(0, .ref (a 26)), (1, .int r1), (2, .int (r3 : Int64).toInt32)]) [2, 1, 0] rfl ?_
    exact z_X5_readOperand_B176 hrw b _ _ _ h
  replace h := h.2
  have o0 := e1
  by_cases e1 : r1.toInt = 3
  · replace h := h.1 e1
    refine z_eqi (y := 3) (y_eqc e1 (by decide)) ?_
    refine z_tableIn (tgt := 170) (off := 162) b dX5_readOperand_8 (by decide) (by decide) (by decide) (by decide) ?_
    refine z_lv0 (lv' := [(0, .ref (a 26))]) [2] rfl ?_
    exact z_X5_readOperand_B170 hrw b _ h
  replace h := h.2
  have o1 := e1
  by_cases e1 : r1.toInt = 4
  · replace h := h.1 e1
    refine z_eqi (y := 4) (y_eqc e1 (by decide)) ?_
    refine z_tableIn (tgt := 170) (off := 162) b dX5_readOperand_8 (by decide) (by decide) (by decide) (by decide) ?_
    refine z_lv0 (lv' := [(0, .ref (a 26))]) [2] rfl ?_
    exact z_X5_readOperand_B170 hrw b _ h
  replace h := h.2
  have o2 := e1
  by_cases e1 : r1.toInt = 5
  · replace h := h.1 e1
    refine z_eqi (y := 5) (y_eqc e1 (by decide)) ?_
    refine z_tableIn (tgt := 170) (off := 162) b dX5_readOperand_8 (by decide) (by decide) (by decide) (by decide) ?_
    refine z_lv0 (lv' := [(0, .ref (a 26))]) [2] rfl ?_
    exact z_X5_readOperand_B170 hrw b _ h
  replace h := h.2
  have o3 := e1
  by_cases e1 : r1.toInt = 6
  · replace h := h.1 e1
    refine z_eqi (y := 6) (y_eqc e1 (by decide)) ?_
    refine z_tableIn (tgt := 170) (off := 162) b dX5_readOperand_8 (by decide) (by decide) (by decide) (by decide) ?_
    refine z_lv0 (lv' := [(0, .ref (a 26))]) [2] rfl ?_
    exact z_X5_readOperand_B170 hrw b _ h
  replace h := h.2
  have o4 := e1
  by_cases e1 : r1.toInt = 7
  · replace h := h.1 e1
    refine z_eqi (y := 7) (y_eqc e1 (by decide)) ?_
    refine z_tableIn (tgt := 132) (off := 124) b dX5_readOperand_8 (by decide) (by decide) (by decide) (by decide) ?_
    refine z_lv0 (lv' := [(0, .ref (a 26)), (1, .int r1)]) [2, 1] rfl ?_
    exact z_X5_readOperand_B132 hrw b _ _ h
  replace h := h.2
  have o5 := e1
  by_cases e1 : r1.toInt = 8
  · replace h := h.1 e1
    refine z_eqi (y := 8) (y_eqc e1 (by decide)) ?_
    refine z_tableIn (tgt := 151) (off := 143) b dX5_readOperand_8 (by decide) (by decide) (by decide) (by decide) ?_
    refine z_lv0 (lv' := [(0, .ref (a 26)), (1, .int r1)]) [2, 1] rfl ?_
    exact z_X5_readOperand_B151 hrw b _ _ h
  replace h := h.2
  have o6 := e1
  by_cases e1 : r1.toInt = 9
  · replace h := h.1 e1
    refine z_eqi (y := 9) (y_eqc e1 (by decide)) ?_
    refine z_tableIn (tgt := 170) (off := 162) b dX5_readOperand_8 (by decide) (by decide) (by decide) (by decide) ?_
    refine z_lv0 (lv' := [(0, .ref (a 26))]) [2] rfl ?_
    exact z_X5_readOperand_B170 hrw b _ h
  replace h := h.2
  have o7 := e1
  by_cases e1 : r1.toInt = 10
  · replace h := h.1 e1
    refine z_eqi (y := 10) (y_eqc e1 (by decide)) ?_
    refine z_tableIn (tgt := 170) (off := 162) b dX5_readOperand_8 (by decide) (by decide) (by decide) (by decide) ?_
    refine z_lv0 (lv' := [(0, .ref (a 26))]) [2] rfl ?_
    exact z_X5_readOperand_B170 hrw b _ h
  replace h := h.2
  have o8 := e1
  by_cases e1 : r1.toInt = 11
  · replace h := h.1 e1
    refine z_eqi (y := 11) (y_eqc e1 (by decide)) ?_
    refine z_tableIn (tgt := 151) (off := 143) b dX5_readOperand_8 (by decide) (by decide) (by decide) (by decide) ?_
    refine z_lv0 (lv' := [(0, .ref (a 26)), (1, .int r1)]) [2, 1] rfl ?_
    exact z_X5_readOperand_B151 hrw b _ _ h
  replace h := h.2
  have o9 := e1
  by_cases e1 : r1.toInt = 12
  · replace h := h.1 e1
    refine z_eqi (y := 12) (y_eqc e1 (by decide)) ?_
    refine z_tableIn (tgt := 170) (off := 162) b dX5_readOperand_8 (by decide) (by decide) (by decide) (by decide) ?_
    refine z_lv0 (lv' := [(0, .ref (a 26))]) [2] rfl ?_
    exact z_X5_readOperand_B170 hrw b _ h
  replace h := h.2
  have o10 := e1
  by_cases e1 : r1.toInt = 13
  · replace h := h.1 e1
    refine z_eqi (y := 13) (y_eqc e1 (by decide)) ?_
    refine z_tableIn (tgt := 170) (off := 162) b dX5_readOperand_8 (by decide) (by decide) (by decide) (by decide) ?_
    refine z_lv0 (lv' := [(0, .ref (a 26))]) [2] rfl ?_
    exact z_X5_readOperand_B170 hrw b _ h
  replace h := h.2
  have o11 := e1
  by_cases e1 : r1.toInt = 14
  · replace h := h.1 e1
    refine z_eqi (y := 14) (y_eqc e1 (by decide)) ?_
    refine z_tableIn (tgt := 119) (off := 111) b dX5_readOperand_8 (by decide) (by decide) (by decide) (by decide) ?_
    refine z_aload_n b dX5_readOperand_119 rfl rfl ?_
    refine z_dup b dX5_readOperand_120 rfl ?_
    refine z_get (q0 := 26) (k9 := 1) (v := .int (fi S2.1 15)) b (kw_26 cy a rw S2) rfl in_X5 (by decide) wf_X5_18 rfl dX5_readOperand_121 ?_
    refine z_iconst (v := 1) b dX5_readOperand_124 (by decide) ?_
    refine z_iadd b dX5_readOperand_125 rfl ?_
    refine z_put (q0 := 26) (k9 := 1) tyX5 b (kw_26 cy a rw S2) rfl in_X5 tyX5_ok nmX5 (by decide) wf_X5_18 rfl rfl rfl rfl (Nat.le_of_ble_eq_true rfl) dX5_readOperand_126 (kwp_26_1 cy a rw S2 ((fi S2.1 15) + 1)) ?_
    refine z_goto (tgt := 176) b dX5_readOperand_129 (by decide) ?_
    refine z_lv0 (lv' := [(0, .ref (a 26)), (1, .int r1), (2, .int 0)]) [2, 1, 0] rfl ?_
    exact z_X5_readOperand_B176 hrw b _ _ _ h
  replace h := h.2
  have o12 := e1
  by_cases e1 : r1.toInt = 15
  · replace h := h.1 e1
    refine z_eqi (y := 15) (y_eqc e1 (by decide)) ?_
    refine z_tableIn (tgt := 170) (off := 162) b dX5_readOperand_8 (by decide) (by decide) (by decide) (by decide) ?_
    refine z_lv0 (lv' := [(0, .ref (a 26))]) [2] rfl ?_
    exact z_X5_readOperand_B170 hrw b _ h
  replace h := h.2
  have o13 := e1
  by_cases e1 : r1.toInt = 16
  · replace h := h.1 e1
    refine z_eqi (y := 16) (y_eqc e1 (by decide)) ?_
    refine z_tableIn (tgt := 170) (off := 162) b dX5_readOperand_8 (by decide) (by decide) (by decide) (by decide) ?_
    refine z_lv0 (lv' := [(0, .ref (a 26))]) [2] rfl ?_
    exact z_X5_readOperand_B170 hrw b _ h
  replace h := h.2
  have o14 := e1
  by_cases e1 : r1.toInt = 17
  · replace h := h.1 e1
    refine z_eqi (y := 17) (y_eqc e1 (by decide)) ?_
    refine z_tableIn (tgt := 170) (off := 162) b dX5_readOperand_8 (by decide) (by decide) (by decide) (by decide) ?_
    refine z_lv0 (lv' := [(0, .ref (a 26))]) [2] rfl ?_
    exact z_X5_readOperand_B170 hrw b _ h
  replace h := h.2
  have o15 := e1
  by_cases e1 : r1.toInt = 18
  · replace h := h.1 e1
    refine z_eqi (y := 18) (y_eqc e1 (by decide)) ?_
    refine z_tableIn (tgt := 151) (off := 143) b dX5_readOperand_8 (by decide) (by decide) (by decide) (by decide) ?_
    refine z_lv0 (lv' := [(0, .ref (a 26)), (1, .int r1)]) [2, 1] rfl ?_
    exact z_X5_readOperand_B151 hrw b _ _ h
  replace h := h.2
  have o16 := e1
  by_cases e1 : r1.toInt = 19
  · replace h := h.1 e1
    refine z_eqi (y := 19) (y_eqc e1 (by decide)) ?_
    refine z_tableIn (tgt := 132) (off := 124) b dX5_readOperand_8 (by decide) (by decide) (by decide) (by decide) ?_
    refine z_lv0 (lv' := [(0, .ref (a 26)), (1, .int r1)]) [2, 1] rfl ?_
    exact z_X5_readOperand_B132 hrw b _ _ h
  replace h := h.2
  have o17 := e1
  by_cases e1 : r1.toInt = 20
  · replace h := h.1 e1
    refine z_eqi (y := 20) (y_eqc e1 (by decide)) ?_
    refine z_tableIn (tgt := 132) (off := 124) b dX5_readOperand_8 (by decide) (by decide) (by decide) (by decide) ?_
    refine z_lv0 (lv' := [(0, .ref (a 26)), (1, .int r1)]) [2, 1] rfl ?_
    exact z_X5_readOperand_B132 hrw b _ _ h
  replace h := h.2
  have o18 := e1
  replace h := h ⟨o0, o1, o2, o3, o4, o5, o6, o7, o8, o9, o10, o11, o12, o13, o14, o15, o16, o17, o18⟩
  refine z_tableOut (tgt := 170) b dX5_readOperand_8 (by omega) (by decide) ?_
  refine z_lv0 (lv' := [(0, .ref (a 26))]) [2] rfl ?_
  exact z_X5_readOperand_B170 hrw b _ h

def w_X5_readSum_B101 (cy : Nat → ClassId) (tE : Nat) (post : Int32 → KS → Prop) (k13 : KS → Int32 → Int32 → Prop) (k107 : KS → Int32 → Prop) (S : KS) (x1 : Int32) (x2 : Int32) : Prop :=
  k13 S x1 (x2 + 1)

set_option maxHeartbeats 200000 in
set_option maxRecDepth 100000 in
theorem z_X5_readSum_B101 {p : Program} {l : Launch} {e : Env} {R : Room} {s : State} {m : MethodId} {args : Array Value} {below : List Frame} {meth : Method} {c : Code} {D : va_G} {cy : Nat → ClassId} {T0 tB tE : Nat} {A : Nat → Prop} {a : Nat → Nat} {rw : Nat → Option Nat} (hrw : ∀ i, i < 6 → rw i = some (a (12 + 2 * i))) {post : Int32 → KS → Prop} {k13 : KS → Int32 → Int32 → Prop} {k107 : KS → Int32 → Prop} (b : Bz p R s m args meth c D cy T0 tB tE A 4 cX5_readSum RX5 (some .boolean) "readSum" 3 65 0 0) (hk13 : ∀ (S : KS) (x1 : Int32) (x2 : Int32), k13 S x1 x2 → Z p l e R s m args below meth c D A 4 (MQ below (QI D (U := KS) post (kw cy a rw) A) args s 0 0 A) 0 0 (kw cy a rw S) [(0, .ref (a 26)), (1, .int x1), (2, .int x2)] 13 []) (hk107 : ∀ (S : KS) (x1 : Int32), k107 S x1 → Z p l e R s m args below meth c D A 4 (MQ below (QI D (U := KS) post (kw cy a rw) A) args s 0 0 A) 0 0 (kw cy a rw S) [(0, .ref (a 26)), (1, .int x1)] 107 []) (S : KS) (x1 : Int32) (x2 : Int32) (h : w_X5_readSum_B101 cy tE post k13 k107 S x1 x2) : Z p l e R s m args below meth c D A 4 (MQ below (QI D (U := KS) post (kw cy a rw) A) args s 0 0 A) 0 0 (kw cy a rw S) [(0, .ref (a 26)), (1, .int x1), (2, .int x2)] 101 [] := by
  unfold w_X5_readSum_B101 at h
  refine z_iinc (k9 := 2) (v := (x2 + 1)) (lv' := [(2, .int (x2 + 1)), (0, .ref (a 26)), (1, .int x1)]) b dX5_readSum_101 rfl rfl (by decide) rfl ?_
  refine z_goto (tgt := 13) b dX5_readSum_104 (by decide) ?_
  refine z_lv0 (lv' := [(0, .ref (a 26)), (1, .int x1), (2, .int (x2 + 1))]) [1, 2, 0] rfl ?_
  exact hk13 _ _ _ h

def w_X5_readSum_B79 (cy : Nat → ClassId) (tE : Nat) (post : Int32 → KS → Prop) (k13 : KS → Int32 → Int32 → Prop) (k107 : KS → Int32 → Prop) (S : KS) (x1 : Int32) (x2 : Int32) (x3 : Int32) : Prop :=
  w_X5_readOperand cy tE S (fun r5 S6 => ((r5.toInt ≠ 0 → ((x3.toInt ≠ 26 → w_X5_readSum_B101 cy tE post k13 k107 S6 x1 x2) ∧ (x3.toInt = 26 → w_X5_emit cy tE S6 26 0 (fun S8 => w_X5_readSum_B101 cy tE post k13 k107 S8 x1 x2)))) ∧ (r5.toInt = 0 → post 0 S6)))

set_option maxHeartbeats 200000 in
set_option maxRecDepth 100000 in
theorem z_X5_readSum_B79 {p : Program} {l : Launch} {e : Env} {R : Room} {s : State} {m : MethodId} {args : Array Value} {below : List Frame} {meth : Method} {c : Code} {D : va_G} {cy : Nat → ClassId} {T0 tB tE : Nat} {A : Nat → Prop} {a : Nat → Nat} {rw : Nat → Option Nat} (hrw : ∀ i, i < 6 → rw i = some (a (12 + 2 * i))) {post : Int32 → KS → Prop} {k13 : KS → Int32 → Int32 → Prop} {k107 : KS → Int32 → Prop} (b : Bz p R s m args meth c D cy T0 tB tE A 4 cX5_readSum RX5 (some .boolean) "readSum" 3 65 0 0) (hk13 : ∀ (S : KS) (x1 : Int32) (x2 : Int32), k13 S x1 x2 → Z p l e R s m args below meth c D A 4 (MQ below (QI D (U := KS) post (kw cy a rw) A) args s 0 0 A) 0 0 (kw cy a rw S) [(0, .ref (a 26)), (1, .int x1), (2, .int x2)] 13 []) (hk107 : ∀ (S : KS) (x1 : Int32), k107 S x1 → Z p l e R s m args below meth c D A 4 (MQ below (QI D (U := KS) post (kw cy a rw) A) args s 0 0 A) 0 0 (kw cy a rw S) [(0, .ref (a 26)), (1, .int x1)] 107 []) (S : KS) (x1 : Int32) (x2 : Int32) (x3 : Int32) (h : w_X5_readSum_B79 cy tE post k13 k107 S x1 x2 x3) : Z p l e R s m args below meth c D A 4 (MQ below (QI D (U := KS) post (kw cy a rw) A) args s 0 0 A) 0 0 (kw cy a rw S) [(0, .ref (a 26)), (1, .int x1), (2, .int x2), (3, .int x3)] 79 [] := by
  unfold w_X5_readSum_B79 at h
  refine z_aload_n b dX5_readSum_79 rfl rfl ?_
  refine z_calli b (z_runV (q0 := 26) (As := []) (st := []) b (k_X5_readOperand hrw S _ h) cf_X5_readOperand (kw_26 cy a rw S) rfl wm_X5_165 wi_X5_readOperand ws_X5_readOperand dX5_readSum_80 rfl (Nat.le_of_ble_eq_true rfl) ⟨by decide, by decide, Nat.le_of_ble_eq_true rfl, Nat.le_of_ble_eq_true rfl⟩) (fun r5 S6 h => ?_)
  refine y_if_ne (tgt := 88) (xl := r5.toInt) b rfl dX5_readSum_83 (by decide) (fun c1 => ?_) (fun c1 => ?_)
  · replace h := h.1 c1
    refine z_iload_n b dX5_readSum_88 rfl rfl ?_
    refine z_bipush (v := 26) b dX5_readSum_89 (by decide) ?_
    refine y_icmp_ne (tgt := 101) (xl := x3.toInt) (yl := 26) b rfl (by decide) dX5_readSum_91 (by decide) (fun c1 => ?_) (fun c1 => ?_)
    · replace h := h.1 c1
      refine z_lv0 (lv' := [(0, .ref (a 26)), (1, .int x1), (2, .int x2)]) [0, 1, 2] rfl ?_
      exact z_X5_readSum_B101 hrw b hk13 hk107 _ _ _ h
    · replace h := h.2 c1
      refine z_aload_n b dX5_readSum_94 rfl rfl ?_
      refine z_bipush (v := 26) b dX5_readSum_95 (by decide) ?_
      refine z_iconst (v := 0) b dX5_readSum_97 (by decide) ?_
      refine z_callv b (z_runV (q0 := 26) (As := [.int 26, .int 0]) (st := []) b (k_X5_emit hrw S6 26 0 _ h) cf_X5_emit (kw_26 cy a rw S6) rfl wm_X5_147 wi_X5_emit ws_X5_emit dX5_readSum_98 rfl (Nat.le_of_ble_eq_true rfl) ⟨by decide, by decide, Nat.le_of_ble_eq_true rfl, Nat.le_of_ble_eq_true rfl⟩) (fun S8 h => ?_)
      refine z_lv0 (lv' := [(0, .ref (a 26)), (1, .int x1), (2, .int x2)]) [0, 1, 2] rfl ?_
      exact z_X5_readSum_B101 hrw b hk13 hk107 _ _ _ h
  · replace h := h.2 c1
    refine z_iconst (v := 0) b dX5_readSum_86 (by decide) ?_
    exact z_zret (u := S6) b rfl (by decide) dX5_readSum_87 h rfl (by decide) (by decide)

def w_X5_readSum_B77 (cy : Nat → ClassId) (tE : Nat) (post : Int32 → KS → Prop) (k13 : KS → Int32 → Int32 → Prop) (k107 : KS → Int32 → Prop) (S : KS) (x2 : Int32) (x3 : Int32) : Prop :=
  w_X5_readSum_B79 cy tE post k13 k107 S x3 x2 x3

set_option maxHeartbeats 200000 in
set_option maxRecDepth 100000 in
theorem z_X5_readSum_B77 {p : Program} {l : Launch} {e : Env} {R : Room} {s : State} {m : MethodId} {args : Array Value} {below : List Frame} {meth : Method} {c : Code} {D : va_G} {cy : Nat → ClassId} {T0 tB tE : Nat} {A : Nat → Prop} {a : Nat → Nat} {rw : Nat → Option Nat} (hrw : ∀ i, i < 6 → rw i = some (a (12 + 2 * i))) {post : Int32 → KS → Prop} {k13 : KS → Int32 → Int32 → Prop} {k107 : KS → Int32 → Prop} (b : Bz p R s m args meth c D cy T0 tB tE A 4 cX5_readSum RX5 (some .boolean) "readSum" 3 65 0 0) (hk13 : ∀ (S : KS) (x1 : Int32) (x2 : Int32), k13 S x1 x2 → Z p l e R s m args below meth c D A 4 (MQ below (QI D (U := KS) post (kw cy a rw) A) args s 0 0 A) 0 0 (kw cy a rw S) [(0, .ref (a 26)), (1, .int x1), (2, .int x2)] 13 []) (hk107 : ∀ (S : KS) (x1 : Int32), k107 S x1 → Z p l e R s m args below meth c D A 4 (MQ below (QI D (U := KS) post (kw cy a rw) A) args s 0 0 A) 0 0 (kw cy a rw S) [(0, .ref (a 26)), (1, .int x1)] 107 []) (S : KS) (x2 : Int32) (x3 : Int32) (h : w_X5_readSum_B77 cy tE post k13 k107 S x2 x3) : Z p l e R s m args below meth c D A 4 (MQ below (QI D (U := KS) post (kw cy a rw) A) args s 0 0 A) 0 0 (kw cy a rw S) [(0, .ref (a 26)), (2, .int x2), (3, .int x3)] 77 [] := by
  unfold w_X5_readSum_B77 at h
  refine z_iload_n b dX5_readSum_77 rfl rfl ?_
  refine z_istore_n (lv' := [(1, .int x3), (0, .ref (a 26)), (2, .int x2), (3, .int x3)]) b dX5_readSum_78 rfl (by decide) rfl ?_
  refine z_lv0 (lv' := [(0, .ref (a 26)), (1, .int x3), (2, .int x2), (3, .int x3)]) [1, 0, 2, 3] rfl ?_
  exact z_X5_readSum_B79 hrw b hk13 hk107 _ _ _ _ h

def w_X5_readSum_B50 (cy : Nat → ClassId) (tE : Nat) (post : Int32 → KS → Prop) (k13 : KS → Int32 → Int32 → Prop) (k107 : KS → Int32 → Prop) (S : KS) (x1 : Int32) (x2 : Int32) (x3 : Int32) : Prop :=
  ((x3.toInt = 26 → w_X5_readSum_B79 cy tE post k13 k107 (ksi S 15 ((fi S.1 15) + 1)) x1 x2 x3) ∧ (x3.toInt ≠ 26 → ((x1.toInt = (-1) → w_X5_readSum_B77 cy tE post k13 k107 (ksi S 15 ((fi S.1 15) + 1)) x2 x3) ∧ (x1.toInt ≠ (-1) → w_X5_emit cy tE (ksi S 15 ((fi S.1 15) + 1)) x1 0 (fun S10 => w_X5_readSum_B77 cy tE post k13 k107 S10 x2 x3)))))

set_option maxHeartbeats 200000 in
set_option maxRecDepth 100000 in
theorem z_X5_readSum_B50 {p : Program} {l : Launch} {e : Env} {R : Room} {s : State} {m : MethodId} {args : Array Value} {below : List Frame} {meth : Method} {c : Code} {D : va_G} {cy : Nat → ClassId} {T0 tB tE : Nat} {A : Nat → Prop} {a : Nat → Nat} {rw : Nat → Option Nat} (hrw : ∀ i, i < 6 → rw i = some (a (12 + 2 * i))) {post : Int32 → KS → Prop} {k13 : KS → Int32 → Int32 → Prop} {k107 : KS → Int32 → Prop} (b : Bz p R s m args meth c D cy T0 tB tE A 4 cX5_readSum RX5 (some .boolean) "readSum" 3 65 0 0) (hk13 : ∀ (S : KS) (x1 : Int32) (x2 : Int32), k13 S x1 x2 → Z p l e R s m args below meth c D A 4 (MQ below (QI D (U := KS) post (kw cy a rw) A) args s 0 0 A) 0 0 (kw cy a rw S) [(0, .ref (a 26)), (1, .int x1), (2, .int x2)] 13 []) (hk107 : ∀ (S : KS) (x1 : Int32), k107 S x1 → Z p l e R s m args below meth c D A 4 (MQ below (QI D (U := KS) post (kw cy a rw) A) args s 0 0 A) 0 0 (kw cy a rw S) [(0, .ref (a 26)), (1, .int x1)] 107 []) (S : KS) (x1 : Int32) (x2 : Int32) (x3 : Int32) (h : w_X5_readSum_B50 cy tE post k13 k107 S x1 x2 x3) : Z p l e R s m args below meth c D A 4 (MQ below (QI D (U := KS) post (kw cy a rw) A) args s 0 0 A) 0 0 (kw cy a rw S) [(0, .ref (a 26)), (1, .int x1), (2, .int x2), (3, .int x3)] 50 [] := by
  unfold w_X5_readSum_B50 at h
  refine z_aload_n b dX5_readSum_50 rfl rfl ?_
  refine z_dup b dX5_readSum_51 rfl ?_
  refine z_get (q0 := 26) (k9 := 1) (v := .int (fi S.1 15)) b (kw_26 cy a rw S) rfl in_X5 (by decide) wf_X5_18 rfl dX5_readSum_52 ?_
  refine z_iconst (v := 1) b dX5_readSum_55 (by decide) ?_
  refine z_iadd b dX5_readSum_56 rfl ?_
  refine z_put (q0 := 26) (k9 := 1) tyX5 b (kw_26 cy a rw S) rfl in_X5 tyX5_ok nmX5 (by decide) wf_X5_18 rfl rfl rfl rfl (Nat.le_of_ble_eq_true rfl) dX5_readSum_57 (kwp_26_1 cy a rw S ((fi S.1 15) + 1)) ?_
  refine z_iload_n b dX5_readSum_60 rfl rfl ?_
  refine z_bipush (v := 26) b dX5_readSum_61 (by decide) ?_
  refine y_icmp_eq (tgt := 79) (xl := x3.toInt) (yl := 26) b rfl (by decide) dX5_readSum_63 (by decide) (fun c1 => ?_) (fun c1 => ?_)
  · replace h := h.1 c1
    exact z_X5_readSum_B79 hrw b hk13 hk107 _ _ _ _ h
  · replace h := h.2 c1
    refine z_iload_n b dX5_readSum_66 rfl rfl ?_
    refine z_iconst (v := (-1)) b dX5_readSum_67 (by decide) ?_
    refine y_icmp_eq (tgt := 77) (xl := x1.toInt) (yl := (-1)) b rfl (by decide) dX5_readSum_68 (by decide) (fun c1 => ?_) (fun c1 => ?_)
    · replace h := h.1 c1
      refine z_lv0 (lv' := [(0, .ref (a 26)), (2, .int x2), (3, .int x3)]) [0, 2, 3] rfl ?_
      exact z_X5_readSum_B77 hrw b hk13 hk107 _ _ _ h
    · replace h := h.2 c1
      refine z_aload_n b dX5_readSum_71 rfl rfl ?_
      refine z_iload_n b dX5_readSum_72 rfl rfl ?_
      refine z_iconst (v := 0) b dX5_readSum_73 (by decide) ?_
      refine z_callv b (z_runV (q0 := 26) (As := [.int x1, .int 0]) (st := []) b (k_X5_emit hrw (ksi S 15 ((fi S.1 15) + 1)) x1 0 _ h) cf_X5_emit (kw_26 cy a rw (ksi S 15 ((fi S.1 15) + 1))) rfl wm_X5_147 wi_X5_emit ws_X5_emit dX5_readSum_74 rfl (Nat.le_of_ble_eq_true rfl) ⟨by decide, by decide, Nat.le_of_ble_eq_true rfl, Nat.le_of_ble_eq_true rfl⟩) (fun S10 h => ?_)
      refine z_lv0 (lv' := [(0, .ref (a 26)), (2, .int x2), (3, .int x3)]) [0, 2, 3] rfl ?_
      exact z_X5_readSum_B77 hrw b hk13 hk107 _ _ _ h

def w_X5_readSum_F13 (cy : Nat → ClassId) (tE : Nat) (post : Int32 → KS → Prop) (k107 : KS → Int32 → Prop) (k13 : KS → Int32 → Int32 → Prop) (S : KS) (x1 : Int32) (x2 : Int32) : Prop :=
  (((fi S.1 21).toInt ≤ x2.toInt → k107 S x1) ∧ (x2.toInt < (fi S.1 21).toInt → w_X5_kind cy tE S (fun r3 S4 => ((r3.toInt = 24 → w_X5_readSum_B50 cy tE post k13 k107 S4 x1 x2 r3) ∧ (r3.toInt ≠ 24 → ((r3.toInt = 25 → w_X5_readSum_B50 cy tE post k13 k107 S4 x1 x2 r3) ∧ (r3.toInt ≠ 25 → ((r3.toInt = 26 → w_X5_readSum_B50 cy tE post k13 k107 S4 x1 x2 r3) ∧ (r3.toInt ≠ 26 → k107 S4 x1)))))))))

set_option maxHeartbeats 200000 in
set_option maxRecDepth 100000 in
theorem z_X5_readSum_F13 {p : Program} {l : Launch} {e : Env} {R : Room} {s : State} {m : MethodId} {args : Array Value} {below : List Frame} {meth : Method} {c : Code} {D : va_G} {cy : Nat → ClassId} {T0 tB tE : Nat} {A : Nat → Prop} {a : Nat → Nat} {rw : Nat → Option Nat} (hrw : ∀ i, i < 6 → rw i = some (a (12 + 2 * i))) {post : Int32 → KS → Prop} {k107 : KS → Int32 → Prop} {k13 : KS → Int32 → Int32 → Prop} (b : Bz p R s m args meth c D cy T0 tB tE A 4 cX5_readSum RX5 (some .boolean) "readSum" 3 65 0 0) (hk107 : ∀ (S : KS) (x1 : Int32), k107 S x1 → Z p l e R s m args below meth c D A 4 (MQ below (QI D (U := KS) post (kw cy a rw) A) args s 0 0 A) 0 0 (kw cy a rw S) [(0, .ref (a 26)), (1, .int x1)] 107 []) (hk13 : ∀ (S : KS) (x1 : Int32) (x2 : Int32), k13 S x1 x2 → Z p l e R s m args below meth c D A 4 (MQ below (QI D (U := KS) post (kw cy a rw) A) args s 0 0 A) 0 0 (kw cy a rw S) [(0, .ref (a 26)), (1, .int x1), (2, .int x2)] 13 []) (S : KS) (x1 : Int32) (x2 : Int32) (h : w_X5_readSum_F13 cy tE post k107 k13 S x1 x2) : Z p l e R s m args below meth c D A 4 (MQ below (QI D (U := KS) post (kw cy a rw) A) args s 0 0 A) 0 0 (kw cy a rw S) [(0, .ref (a 26)), (1, .int x1), (2, .int x2)] 13 [] := by
  unfold w_X5_readSum_F13 at h
  refine z_iload_n b dX5_readSum_13 rfl rfl ?_
  refine z_aload_n b dX5_readSum_14 rfl rfl ?_
  refine z_get (q0 := 26) (k9 := 0) (v := .ref (a 27)) b (kw_26 cy a rw S) rfl in_X5 (by decide) wf_X5_12 rfl dX5_readSum_15 ?_
  refine z_get (q0 := 27) (k9 := 4) (v := .int (fi S.1 21)) b (kw_27 cy a rw S) rfl in_X10 (by decide) wf_X5_56 rfl dX5_readSum_18 ?_
  refine y_icmp_ge (tgt := 107) (xl := x2.toInt) (yl := (fi S.1 21).toInt) b rfl rfl dX5_readSum_21 (by decide) (fun c1 => ?_) (fun c1 => ?_)
  · replace h := h.1 c1
    refine z_lv0 (lv' := [(0, .ref (a 26)), (1, .int x1)]) [0, 1] rfl ?_
    exact hk107 _ _ h
  · replace h := h.2 c1
    refine z_aload_n b dX5_readSum_24 rfl rfl ?_
    refine z_calli b (z_runV (q0 := 26) (As := []) (st := []) b (k_X5_kind hrw S _ h) cf_X5_kind (kw_26 cy a rw S) rfl wm_X5_66 wi_X5_kind ws_X5_kind dX5_readSum_25 rfl (Nat.le_of_ble_eq_true rfl) ⟨by decide, by decide, Nat.le_of_ble_eq_true rfl, Nat.le_of_ble_eq_true rfl⟩) (fun r3 S4 h => ?_)
    refine z_istore_n (lv' := [(3, .int r3), (0, .ref (a 26)), (1, .int x1), (2, .int x2)]) b dX5_readSum_28 rfl (by decide) rfl ?_
    refine z_iload_n b dX5_readSum_29 rfl rfl ?_
    refine z_bipush (v := 24) b dX5_readSum_30 (by decide) ?_
    refine y_icmp_eq (tgt := 50) (xl := r3.toInt) (yl := 24) b rfl (by decide) dX5_readSum_32 (by decide) (fun c1 => ?_) (fun c1 => ?_)
    · replace h := h.1 c1
      refine z_lv0 (lv' := [(0, .ref (a 26)), (1, .int x1), (2, .int x2), (3, .int r3)]) [1, 2, 3, 0] rfl ?_
      exact z_X5_readSum_B50 hrw b hk13 hk107 _ _ _ _ h
    · replace h := h.2 c1
      refine z_iload_n b dX5_readSum_35 rfl rfl ?_
      refine z_bipush (v := 25) b dX5_readSum_36 (by decide) ?_
      refine y_icmp_eq (tgt := 50) (xl := r3.toInt) (yl := 25) b rfl (by decide) dX5_readSum_38 (by decide) (fun c1 => ?_) (fun c1 => ?_)
      · replace h := h.1 c1
        refine z_lv0 (lv' := [(0, .ref (a 26)), (1, .int x1), (2, .int x2), (3, .int r3)]) [1, 2, 3, 0] rfl ?_
        exact z_X5_readSum_B50 hrw b hk13 hk107 _ _ _ _ h
      · replace h := h.2 c1
        refine z_iload_n b dX5_readSum_41 rfl rfl ?_
        refine z_bipush (v := 26) b dX5_readSum_42 (by decide) ?_
        refine y_icmp_eq (tgt := 50) (xl := r3.toInt) (yl := 26) b rfl (by decide) dX5_readSum_44 (by decide) (fun c1 => ?_) (fun c1 => ?_)
        · replace h := h.1 c1
          refine z_lv0 (lv' := [(0, .ref (a 26)), (1, .int x1), (2, .int x2), (3, .int r3)]) [1, 2, 3, 0] rfl ?_
          exact z_X5_readSum_B50 hrw b hk13 hk107 _ _ _ _ h
        · replace h := h.2 c1
          refine z_goto (tgt := 107) b dX5_readSum_47 (by decide) ?_
          refine z_lv0 (lv' := [(0, .ref (a 26)), (1, .int x1)]) [1, 2] rfl ?_
          exact hk107 _ _ h

set_option maxHeartbeats 200000 in
set_option maxRecDepth 100000 in
theorem zl_X5_readSum_L13 {p : Program} {l : Launch} {e : Env} {R : Room} {s : State} {m : MethodId} {args : Array Value} {below : List Frame} {meth : Method} {c : Code} {D : va_G} {cy : Nat → ClassId} {T0 tB tE : Nat} {A : Nat → Prop} {a : Nat → Nat} {rw : Nat → Option Nat} (hrw : ∀ i, i < 6 → rw i = some (a (12 + 2 * i))) {post : Int32 → KS → Prop} {k107 : KS → Int32 → Prop} (b : Bz p R s m args meth c D cy T0 tB tE A 4 cX5_readSum RX5 (some .boolean) "readSum" 3 65 0 0) (hk107 : ∀ (S : KS) (x1 : Int32), k107 S x1 → Z p l e R s m args below meth c D A 4 (MQ below (QI D (U := KS) post (kw cy a rw) A) args s 0 0 A) 0 0 (kw cy a rw S) [(0, .ref (a 26)), (1, .int x1)] 107 []) : ∀ (n : Nat) (S : KS) (x1 : Int32) (x2 : Int32), lpn (w_X5_readSum_F13 cy tE post k107) (fun _ _ _ => False) n S x1 x2 → Z p l e R s m args below meth c D A 4 (MQ below (QI D (U := KS) post (kw cy a rw) A) args s 0 0 A) 0 0 (kw cy a rw S) [(0, .ref (a 26)), (1, .int x1), (2, .int x2)] 13 [] := by
  intro n
  induction n with
  | zero => intro _ _ _ h; exact h.elim
  | succ n ih => intro S x1 x2 h; exact z_X5_readSum_F13 hrw b hk107 ih S x1 x2 h

def w_X5_readSum_B118 (cy : Nat → ClassId) (tE : Nat) (post : Int32 → KS → Prop) (S : KS)  : Prop :=
  post 1 S

set_option maxHeartbeats 200000 in
set_option maxRecDepth 100000 in
theorem z_X5_readSum_B118 {p : Program} {l : Launch} {e : Env} {R : Room} {s : State} {m : MethodId} {args : Array Value} {below : List Frame} {meth : Method} {c : Code} {D : va_G} {cy : Nat → ClassId} {T0 tB tE : Nat} {A : Nat → Prop} {a : Nat → Nat} {rw : Nat → Option Nat} (hrw : ∀ i, i < 6 → rw i = some (a (12 + 2 * i))) {post : Int32 → KS → Prop} (b : Bz p R s m args meth c D cy T0 tB tE A 4 cX5_readSum RX5 (some .boolean) "readSum" 3 65 0 0) (S : KS)  (h : w_X5_readSum_B118 cy tE post S ) : Z p l e R s m args below meth c D A 4 (MQ below (QI D (U := KS) post (kw cy a rw) A) args s 0 0 A) 0 0 (kw cy a rw S) [] 118 [] := by
  unfold w_X5_readSum_B118 at h
  refine z_iconst (v := 1) b dX5_readSum_118 (by decide) ?_
  exact z_zret (u := S) b rfl (by decide) dX5_readSum_119 h rfl (by decide) (by decide)

def w_X5_readSum_B107 (cy : Nat → ClassId) (tE : Nat) (post : Int32 → KS → Prop) (S : KS) (x1 : Int32) : Prop :=
  ((x1.toInt = (-1) → w_X5_readSum_B118 cy tE post S) ∧ (x1.toInt ≠ (-1) → w_X5_emit cy tE S x1 0 (fun S12 => w_X5_readSum_B118 cy tE post S12)))

set_option maxHeartbeats 200000 in
set_option maxRecDepth 100000 in
theorem z_X5_readSum_B107 {p : Program} {l : Launch} {e : Env} {R : Room} {s : State} {m : MethodId} {args : Array Value} {below : List Frame} {meth : Method} {c : Code} {D : va_G} {cy : Nat → ClassId} {T0 tB tE : Nat} {A : Nat → Prop} {a : Nat → Nat} {rw : Nat → Option Nat} (hrw : ∀ i, i < 6 → rw i = some (a (12 + 2 * i))) {post : Int32 → KS → Prop} (b : Bz p R s m args meth c D cy T0 tB tE A 4 cX5_readSum RX5 (some .boolean) "readSum" 3 65 0 0) (S : KS) (x1 : Int32) (h : w_X5_readSum_B107 cy tE post S x1) : Z p l e R s m args below meth c D A 4 (MQ below (QI D (U := KS) post (kw cy a rw) A) args s 0 0 A) 0 0 (kw cy a rw S) [(0, .ref (a 26)), (1, .int x1)] 107 [] := by
  unfold w_X5_readSum_B107 at h
  refine z_iload_n b dX5_readSum_107 rfl rfl ?_
  refine z_iconst (v := (-1)) b dX5_readSum_108 (by decide) ?_
  refine y_icmp_eq (tgt := 118) (xl := x1.toInt) (yl := (-1)) b rfl (by decide) dX5_readSum_109 (by decide) (fun c1 => ?_) (fun c1 => ?_)
  · replace h := h.1 c1
    refine z_lv0 (lv' := []) [] rfl ?_
    exact z_X5_readSum_B118 hrw b _ h
  · replace h := h.2 c1
    refine z_aload_n b dX5_readSum_112 rfl rfl ?_
    refine z_iload_n b dX5_readSum_113 rfl rfl ?_
    refine z_iconst (v := 0) b dX5_readSum_114 (by decide) ?_
    refine z_callv b (z_runV (q0 := 26) (As := [.int x1, .int 0]) (st := []) b (k_X5_emit hrw S x1 0 _ h) cf_X5_emit (kw_26 cy a rw S) rfl wm_X5_147 wi_X5_emit ws_X5_emit dX5_readSum_115 rfl (Nat.le_of_ble_eq_true rfl) ⟨by decide, by decide, Nat.le_of_ble_eq_true rfl, Nat.le_of_ble_eq_true rfl⟩) (fun S12 h => ?_)
    refine z_lv0 (lv' := []) [] rfl ?_
    exact z_X5_readSum_B118 hrw b _ h

def w_X5_readSum (cy : Nat → ClassId) (tE : Nat) (S : KS)  (post : Int32 → KS → Prop) : Prop :=
  w_X5_readOperand cy tE S (fun r1 S2 => ((r1.toInt ≠ 0 → ∃ n, lpn (w_X5_readSum_F13 cy tE post (w_X5_readSum_B107 cy tE post)) (fun _ _ _ => False) n S2 (-1) 0) ∧ (r1.toInt = 0 → post 0 S2)))

set_option maxHeartbeats 200000 in
set_option maxRecDepth 100000 in
theorem k_X5_readSum {l : Launch} {D : va_G} {cy : Nat → ClassId} {T0 tB tE : Nat} {a : Nat → Nat} {rw : Nat → Option Nat} (hrw : ∀ i, i < 6 → rw i = some (a (12 + 2 * i))) (S : KS)  (post : Int32 → KS → Prop) (h : w_X5_readSum cy tE S  post) : Ct l D cy T0 tB tE yX5_readSum cX5_readSum 4 (some .boolean) 3 65 0 0 (kw cy a rw S) [.ref (a 26)] (QI D (U := KS) post (kw cy a rw)) := by
  refine Ct.ofZ RX5 "readSum" [(0, .ref (a 26))] rfl rfl rfl rfl (Nat.le_of_ble_eq_true rfl) ?_
  intro p e R s m args below meth c A b
  unfold w_X5_readSum at h
  refine z_aload_n b dX5_readSum_0 rfl rfl ?_
  refine z_calli b (z_runV (q0 := 26) (As := []) (st := []) b (k_X5_readOperand hrw S _ h) cf_X5_readOperand (kw_26 cy a rw S) rfl wm_X5_165 wi_X5_readOperand ws_X5_readOperand dX5_readSum_1 rfl (Nat.le_of_ble_eq_true rfl) ⟨by decide, by decide, Nat.le_of_ble_eq_true rfl, Nat.le_of_ble_eq_true rfl⟩) (fun r1 S2 h => ?_)
  refine y_if_ne (tgt := 9) (xl := r1.toInt) b rfl dX5_readSum_4 (by decide) (fun c1 => ?_) (fun c1 => ?_)
  · replace h := h.1 c1
    refine z_iconst (v := (-1)) b dX5_readSum_9 (by decide) ?_
    refine z_istore_n (lv' := [(1, .int (-1)), (0, .ref (a 26))]) b dX5_readSum_10 rfl (by decide) rfl ?_
    refine z_iconst (v := 0) b dX5_readSum_11 (by decide) ?_
    refine z_istore_n (lv' := [(2, .int 0), (1, .int (-1)), (0, .ref (a 26))]) b dX5_readSum_12 rfl (by decide) rfl ?_
    refine z_lv0 (lv' := [(0, .ref (a 26)), (1, .int (-1)), (2, .int 0)]) [2, 1, 0] rfl ?_
    obtain ⟨n, h⟩ := h
    exact zl_X5_readSum_L13 hrw b (fun S x1 h => z_X5_readSum_B107 hrw b _ _ h) n _ _ _ h
  · replace h := h.2 c1
    refine z_iconst (v := 0) b dX5_readSum_7 (by decide) ?_
    exact z_zret (u := S2) b rfl (by decide) dX5_readSum_8 h rfl (by decide) (by decide)

def w_X5_readClaim_B39 (cy : Nat → ClassId) (tE : Nat) (sg : KS → Int32 → (Int32 → KS → Prop) → Prop) (post : Int32 → KS → Prop) (S : KS) (y0 : Int32) : Prop :=
  (y0 = 0 ∨ y0 = 1) ∧ post y0 S

set_option maxHeartbeats 200000 in
set_option maxRecDepth 100000 in
theorem z_X5_readClaim_B39 {p : Program} {l : Launch} {e : Env} {R : Room} {s : State} {m : MethodId} {args : Array Value} {below : List Frame} {meth : Method} {c : Code} {D : va_G} {cy : Nat → ClassId} {T0 tB tE : Nat} {A : Nat → Prop} {a : Nat → Nat} {rw : Nat → Option Nat} (hrw : ∀ i, i < 6 → rw i = some (a (12 + 2 * i))) {d : Nat} {sg : KS → Int32 → (Int32 → KS → Prop) → Prop} (hsg : ∀ (S : KS) (q0 : Int32) (post : Int32 → KS → Prop), sg S q0 post → Ct l D cy T0 tB tE yX5_readClaim cX5_readClaim 4 (some .boolean) (4 + 3 * d) (88 + 69 * d) 0 0 (kw cy a rw S) [.ref (a 26), .int q0] (QI D (U := KS) post (kw cy a rw))) {post : Int32 → KS → Prop} (b : Bz p R s m args meth c D cy T0 tB tE A 4 cX5_readClaim RX5 (some .boolean) "readClaim" (4 + 3 * d + 3) (88 + 69 * d + 69) 0 0) (S : KS) (y0 : Int32) (h : w_X5_readClaim_B39 cy tE sg post S y0) : Z p l e R s m args below meth c D A 4 (MQ below (QI D (U := KS) post (kw cy a rw) A) args s 0 0 A) 0 0 (kw cy a rw S) [] 39 [.int y0] := by
  unfold w_X5_readClaim_B39 at h
  obtain ⟨g5, h⟩ := h
  exact z_zret (u := S) b rfl (z_bool g5) dX5_readClaim_39 h rfl (by decide) (by decide)

def w_X5_readClaim_B17 (cy : Nat → ClassId) (tE : Nat) (sg : KS → Int32 → (Int32 → KS → Prop) → Prop) (post : Int32 → KS → Prop) (S : KS) (x1 : Int32) (x2 : Int32) : Prop :=
  ((8 ≤ x1.toInt → w_X5_refuse cy tE S 3 (fun r3 S4 => w_X5_readClaim_B39 cy tE sg post S4 r3)) ∧ (x1.toInt < 8 → w_X5_readOpened_R cy tE sg S x2 (x1 + 1) (fun r6 S7 => w_X5_readClaim_B39 cy tE sg post S7 r6)))

set_option maxHeartbeats 200000 in
set_option maxRecDepth 100000 in
theorem z_X5_readClaim_B17 {p : Program} {l : Launch} {e : Env} {R : Room} {s : State} {m : MethodId} {args : Array Value} {below : List Frame} {meth : Method} {c : Code} {D : va_G} {cy : Nat → ClassId} {T0 tB tE : Nat} {A : Nat → Prop} {a : Nat → Nat} {rw : Nat → Option Nat} (hrw : ∀ i, i < 6 → rw i = some (a (12 + 2 * i))) {d : Nat} {sg : KS → Int32 → (Int32 → KS → Prop) → Prop} (hsg : ∀ (S : KS) (q0 : Int32) (post : Int32 → KS → Prop), sg S q0 post → Ct l D cy T0 tB tE yX5_readClaim cX5_readClaim 4 (some .boolean) (4 + 3 * d) (88 + 69 * d) 0 0 (kw cy a rw S) [.ref (a 26), .int q0] (QI D (U := KS) post (kw cy a rw))) {post : Int32 → KS → Prop} (b : Bz p R s m args meth c D cy T0 tB tE A 4 cX5_readClaim RX5 (some .boolean) "readClaim" (4 + 3 * d + 3) (88 + 69 * d + 69) 0 0) (S : KS) (x1 : Int32) (x2 : Int32) (h : w_X5_readClaim_B17 cy tE sg post S x1 x2) : Z p l e R s m args below meth c D A 4 (MQ below (QI D (U := KS) post (kw cy a rw) A) args s 0 0 A) 0 0 (kw cy a rw S) [(0, .ref (a 26)), (1, .int x1), (2, .int x2)] 17 [] := by
  unfold w_X5_readClaim_B17 at h
  refine z_iload_n b dX5_readClaim_17 rfl rfl ?_
  refine z_bipush (v := 8) b dX5_readClaim_18 (by decide) ?_
  refine y_icmp_ge (tgt := 34) (xl := x1.toInt) (yl := 8) b rfl (by decide) dX5_readClaim_20 (by decide) (fun c1 => ?_) (fun c1 => ?_)
  · replace h := h.1 c1
    refine z_aload_n b dX5_readClaim_34 rfl rfl ?_
    refine z_iconst (v := 3) b dX5_readClaim_35 (by decide) ?_
    refine z_calli b (z_runV (q0 := 26) (As := [.int 3]) (st := []) b (k_X5_refuse hrw S 3 _ h) cf_X5_refuse (kw_26 cy a rw S) rfl wm_X5_70 wi_X5_refuse ws_X5_refuse dX5_readClaim_36 rfl (Nat.le_of_ble_eq_true rfl) ⟨by omega, by omega, Nat.le_of_ble_eq_true rfl, Nat.le_of_ble_eq_true rfl⟩) (fun r3 S4 h => ?_)
    refine z_lv0 (lv' := []) [] rfl ?_
    exact z_X5_readClaim_B39 hrw hsg b _ _ h
  · replace h := h.2 c1
    refine z_aload_n b dX5_readClaim_23 rfl rfl ?_
    refine z_iload_n b dX5_readClaim_24 rfl rfl ?_
    refine z_iload_n b dX5_readClaim_25 rfl rfl ?_
    refine z_iconst (v := 1) b dX5_readClaim_26 (by decide) ?_
    refine z_iadd b dX5_readClaim_27 rfl ?_
    refine z_calli b (z_runV (q0 := 26) (As := [.int x2, .int (x1 + 1)]) (st := []) b (k_X5_readOpened_R hrw hsg S x2 (x1 + 1) _ h) cf_X5_readOpened (kw_26 cy a rw S) rfl wm_X5_161 wi_X5_readOpened ws_X5_readOpened dX5_readClaim_28 rfl (Nat.le_of_ble_eq_true rfl) ⟨by omega, by omega, Nat.le_of_ble_eq_true rfl, Nat.le_of_ble_eq_true rfl⟩) (fun r6 S7 h => ?_)
    refine z_goto (tgt := 39) b dX5_readClaim_31 (by decide) ?_
    refine z_lv0 (lv' := []) [] rfl ?_
    exact z_X5_readClaim_B39 hrw hsg b _ _ h

def w_X5_readClaim_B78 (cy : Nat → ClassId) (tE : Nat) (sg : KS → Int32 → (Int32 → KS → Prop) → Prop) (post : Int32 → KS → Prop) (S : KS) (x3 : Int32) : Prop :=
  w_X5_readSum cy tE (ksi S 15 ((fi S.1 15) + 1)) (fun r12 S13 => ((r12.toInt ≠ 0 → w_X5_emit cy tE S13 x3 0 (fun S15 => post 1 S15)) ∧ (r12.toInt = 0 → post 0 S13)))

set_option maxHeartbeats 200000 in
set_option maxRecDepth 100000 in
theorem z_X5_readClaim_B78 {p : Program} {l : Launch} {e : Env} {R : Room} {s : State} {m : MethodId} {args : Array Value} {below : List Frame} {meth : Method} {c : Code} {D : va_G} {cy : Nat → ClassId} {T0 tB tE : Nat} {A : Nat → Prop} {a : Nat → Nat} {rw : Nat → Option Nat} (hrw : ∀ i, i < 6 → rw i = some (a (12 + 2 * i))) {d : Nat} {sg : KS → Int32 → (Int32 → KS → Prop) → Prop} (hsg : ∀ (S : KS) (q0 : Int32) (post : Int32 → KS → Prop), sg S q0 post → Ct l D cy T0 tB tE yX5_readClaim cX5_readClaim 4 (some .boolean) (4 + 3 * d) (88 + 69 * d) 0 0 (kw cy a rw S) [.ref (a 26), .int q0] (QI D (U := KS) post (kw cy a rw))) {post : Int32 → KS → Prop} (b : Bz p R s m args meth c D cy T0 tB tE A 4 cX5_readClaim RX5 (some .boolean) "readClaim" (4 + 3 * d + 3) (88 + 69 * d + 69) 0 0) (S : KS) (x3 : Int32) (h : w_X5_readClaim_B78 cy tE sg post S x3) : Z p l e R s m args below meth c D A 4 (MQ below (QI D (U := KS) post (kw cy a rw) A) args s 0 0 A) 0 0 (kw cy a rw S) [(0, .ref (a 26)), (3, .int x3)] 78 [] := by
  unfold w_X5_readClaim_B78 at h
  refine z_aload_n b dX5_readClaim_78 rfl rfl ?_
  refine z_dup b dX5_readClaim_79 rfl ?_
  refine z_get (q0 := 26) (k9 := 1) (v := .int (fi S.1 15)) b (kw_26 cy a rw S) rfl in_X5 (by decide) wf_X5_18 rfl dX5_readClaim_80 ?_
  refine z_iconst (v := 1) b dX5_readClaim_83 (by decide) ?_
  refine z_iadd b dX5_readClaim_84 rfl ?_
  refine z_put (q0 := 26) (k9 := 1) tyX5 b (kw_26 cy a rw S) rfl in_X5 tyX5_ok nmX5 (by decide) wf_X5_18 rfl rfl rfl rfl (Nat.le_of_ble_eq_true rfl) dX5_readClaim_85 (kwp_26_1 cy a rw S ((fi S.1 15) + 1)) ?_
  refine z_aload_n b dX5_readClaim_88 rfl rfl ?_
  refine z_calli b (z_runV (q0 := 26) (As := []) (st := []) b (k_X5_readSum hrw (ksi S 15 ((fi S.1 15) + 1)) _ h) cf_X5_readSum (kw_26 cy a rw (ksi S 15 ((fi S.1 15) + 1))) rfl wm_X5_151 wi_X5_readSum ws_X5_readSum dX5_readClaim_89 rfl (Nat.le_of_ble_eq_true rfl) ⟨by omega, by omega, Nat.le_of_ble_eq_true rfl, Nat.le_of_ble_eq_true rfl⟩) (fun r12 S13 h => ?_)
  refine y_if_ne (tgt := 97) (xl := r12.toInt) b rfl dX5_readClaim_92 (by decide) (fun c1 => ?_) (fun c1 => ?_)
  · replace h := h.1 c1
    refine z_aload_n b dX5_readClaim_97 rfl rfl ?_
    refine z_iload_n b dX5_readClaim_98 rfl rfl ?_
    refine z_iconst (v := 0) b dX5_readClaim_99 (by decide) ?_
    refine z_callv b (z_runV (q0 := 26) (As := [.int x3, .int 0]) (st := []) b (k_X5_emit hrw S13 x3 0 _ h) cf_X5_emit (kw_26 cy a rw S13) rfl wm_X5_147 wi_X5_emit ws_X5_emit dX5_readClaim_100 rfl (Nat.le_of_ble_eq_true rfl) ⟨by omega, by omega, Nat.le_of_ble_eq_true rfl, Nat.le_of_ble_eq_true rfl⟩) (fun S15 h => ?_)
    refine z_iconst (v := 1) b dX5_readClaim_103 (by decide) ?_
    exact z_zret (u := S15) b rfl (by decide) dX5_readClaim_104 h rfl (by decide) (by decide)
  · replace h := h.2 c1
    refine z_iconst (v := 0) b dX5_readClaim_95 (by decide) ?_
    exact z_zret (u := S13) b rfl (by decide) dX5_readClaim_96 h rfl (by decide) (by decide)

def w_X5_readClaim_R (cy : Nat → ClassId) (tE : Nat) (sg : KS → Int32 → (Int32 → KS → Prop) → Prop) (S : KS) (p0 : Int32) (post : Int32 → KS → Prop) : Prop :=
  w_X5_kind cy tE S (fun r1 S2 => ((r1.toInt = 17 → w_X5_readClaim_B17 cy tE sg post S2 p0 r1) ∧ (r1.toInt ≠ 17 → ((r1.toInt ≠ 27 → w_X5_readSum cy tE S2 (fun r8 S9 => ((r8.toInt ≠ 0 → w_X5_kind cy tE S9 (fun r10 S11 => ((r10.toInt = 29 → w_X5_readClaim_B78 cy tE sg post S11 r10) ∧ (r10.toInt ≠ 29 → ((r10.toInt = 30 → w_X5_readClaim_B78 cy tE sg post S11 r10) ∧ (r10.toInt ≠ 30 → ((r10.toInt = 31 → w_X5_readClaim_B78 cy tE sg post S11 r10) ∧ (r10.toInt ≠ 31 → w_X5_refuse cy tE S11 1 (fun r16 S17 => (r16 = 0 ∨ r16 = 1) ∧ post r16 S17))))))))) ∧ (r8.toInt = 0 → post 0 S9)))) ∧ (r1.toInt = 27 → w_X5_readClaim_B17 cy tE sg post S2 p0 r1)))))

set_option maxHeartbeats 200000 in
set_option maxRecDepth 100000 in
theorem k_X5_readClaim_R {l : Launch} {D : va_G} {cy : Nat → ClassId} {T0 tB tE : Nat} {a : Nat → Nat} {rw : Nat → Option Nat} (hrw : ∀ i, i < 6 → rw i = some (a (12 + 2 * i))) {d : Nat} {sg : KS → Int32 → (Int32 → KS → Prop) → Prop} (hsg : ∀ (S : KS) (q0 : Int32) (post : Int32 → KS → Prop), sg S q0 post → Ct l D cy T0 tB tE yX5_readClaim cX5_readClaim 4 (some .boolean) (4 + 3 * d) (88 + 69 * d) 0 0 (kw cy a rw S) [.ref (a 26), .int q0] (QI D (U := KS) post (kw cy a rw))) (S : KS) (p0 : Int32) (post : Int32 → KS → Prop) (h : w_X5_readClaim_R cy tE sg S p0 post) : Ct l D cy T0 tB tE yX5_readClaim cX5_readClaim 4 (some .boolean) (4 + 3 * d + 3) (88 + 69 * d + 69) 0 0 (kw cy a rw S) [.ref (a 26), .int p0] (QI D (U := KS) post (kw cy a rw)) := by
  refine Ct.ofZ RX5 "readClaim" [(0, .ref (a 26)), (1, .int p0)] rfl rfl rfl rfl (Nat.le_of_ble_eq_true rfl) ?_
  intro p e R s m args below meth c A b
  unfold w_X5_readClaim_R at h
  refine z_aload_n b dX5_readClaim_0 rfl rfl ?_
  refine z_calli b (z_runV (q0 := 26) (As := []) (st := []) b (k_X5_kind hrw S _ h) cf_X5_kind (kw_26 cy a rw S) rfl wm_X5_66 wi_X5_kind ws_X5_kind dX5_readClaim_1 rfl (Nat.le_of_ble_eq_true rfl) ⟨by omega, by omega, Nat.le_of_ble_eq_true rfl, Nat.le_of_ble_eq_true rfl⟩) (fun r1 S2 h => ?_)
  refine z_istore_n (lv' := [(2, .int r1), (0, .ref (a 26)), (1, .int p0)]) b dX5_readClaim_4 rfl (by decide) rfl ?_
  refine z_iload_n b dX5_readClaim_5 rfl rfl ?_
  refine z_bipush (v := 17) b dX5_readClaim_6 (by decide) ?_
  refine y_icmp_eq (tgt := 17) (xl := r1.toInt) (yl := 17) b rfl (by decide) dX5_readClaim_8 (by decide) (fun c1 => ?_) (fun c1 => ?_)
  · replace h := h.1 c1
    refine z_lv0 (lv' := [(0, .ref (a 26)), (1, .int p0), (2, .int r1)]) [1, 2, 0] rfl ?_
    exact z_X5_readClaim_B17 hrw hsg b _ _ _ h
  · replace h := h.2 c1
    refine z_iload_n b dX5_readClaim_11 rfl rfl ?_
    refine z_bipush (v := 27) b dX5_readClaim_12 (by decide) ?_
    refine y_icmp_ne (tgt := 40) (xl := r1.toInt) (yl := 27) b rfl (by decide) dX5_readClaim_14 (by decide) (fun c1 => ?_) (fun c1 => ?_)
    · replace h := h.1 c1
      refine z_aload_n b dX5_readClaim_40 rfl rfl ?_
      refine z_calli b (z_runV (q0 := 26) (As := []) (st := []) b (k_X5_readSum hrw S2 _ h) cf_X5_readSum (kw_26 cy a rw S2) rfl wm_X5_151 wi_X5_readSum ws_X5_readSum dX5_readClaim_41 rfl (Nat.le_of_ble_eq_true rfl) ⟨by omega, by omega, Nat.le_of_ble_eq_true rfl, Nat.le_of_ble_eq_true rfl⟩) (fun r8 S9 h => ?_)
      refine y_if_ne (tgt := 49) (xl := r8.toInt) b rfl dX5_readClaim_44 (by decide) (fun c1 => ?_) (fun c1 => ?_)
      · replace h := h.1 c1
        refine z_aload_n b dX5_readClaim_49 rfl rfl ?_
        refine z_calli b (z_runV (q0 := 26) (As := []) (st := []) b (k_X5_kind hrw S9 _ h) cf_X5_kind (kw_26 cy a rw S9) rfl wm_X5_66 wi_X5_kind ws_X5_kind dX5_readClaim_50 rfl (Nat.le_of_ble_eq_true rfl) ⟨by omega, by omega, Nat.le_of_ble_eq_true rfl, Nat.le_of_ble_eq_true rfl⟩) (fun r10 S11 h => ?_)
        refine z_istore_n (lv' := [(3, .int r10), (2, .int r1), (0, .ref (a 26)), (1, .int p0)]) b dX5_readClaim_53 rfl (by decide) rfl ?_
        refine z_iload_n b dX5_readClaim_54 rfl rfl ?_
        refine z_bipush (v := 29) b dX5_readClaim_55 (by decide) ?_
        refine y_icmp_eq (tgt := 78) (xl := r10.toInt) (yl := 29) b rfl (by decide) dX5_readClaim_57 (by decide) (fun c1 => ?_) (fun c1 => ?_)
        · replace h := h.1 c1
          refine z_lv0 (lv' := [(0, .ref (a 26)), (3, .int r10)]) [2, 0] rfl ?_
          exact z_X5_readClaim_B78 hrw hsg b _ _ h
        · replace h := h.2 c1
          refine z_iload_n b dX5_readClaim_60 rfl rfl ?_
          refine z_bipush (v := 30) b dX5_readClaim_61 (by decide) ?_
          refine y_icmp_eq (tgt := 78) (xl := r10.toInt) (yl := 30) b rfl (by decide) dX5_readClaim_63 (by decide) (fun c1 => ?_) (fun c1 => ?_)
          · replace h := h.1 c1
            refine z_lv0 (lv' := [(0, .ref (a 26)), (3, .int r10)]) [2, 0] rfl ?_
            exact z_X5_readClaim_B78 hrw hsg b _ _ h
          · replace h := h.2 c1
            refine z_iload_n b dX5_readClaim_66 rfl rfl ?_
            refine z_bipush (v := 31) b dX5_readClaim_67 (by decide) ?_
            refine y_icmp_eq (tgt := 78) (xl := r10.toInt) (yl := 31) b rfl (by decide) dX5_readClaim_69 (by decide) (fun c1 => ?_) (fun c1 => ?_)
            · replace h := h.1 c1
              refine z_lv0 (lv' := [(0, .ref (a 26)), (3, .int r10)]) [2, 0] rfl ?_
              exact z_X5_readClaim_B78 hrw hsg b _ _ h
            · replace h := h.2 c1
              refine z_aload_n b dX5_readClaim_72 rfl rfl ?_
              refine z_iconst (v := 1) b dX5_readClaim_73 (by decide) ?_
              refine z_calli b (z_runV (q0 := 26) (As := [.int 1]) (st := []) b (k_X5_refuse hrw S11 1 _ h) cf_X5_refuse (kw_26 cy a rw S11) rfl wm_X5_70 wi_X5_refuse ws_X5_refuse dX5_readClaim_74 rfl (Nat.le_of_ble_eq_true rfl) ⟨by omega, by omega, Nat.le_of_ble_eq_true rfl, Nat.le_of_ble_eq_true rfl⟩) (fun r16 S17 h => ?_)
              obtain ⟨g18, h⟩ := h
              exact z_zret (u := S17) b rfl (z_bool g18) dX5_readClaim_77 h rfl (by decide) (by decide)
      · replace h := h.2 c1
        refine z_iconst (v := 0) b dX5_readClaim_47 (by decide) ?_
        exact z_zret (u := S9) b rfl (by decide) dX5_readClaim_48 h rfl (by decide) (by decide)
    · replace h := h.2 c1
      refine z_lv0 (lv' := [(0, .ref (a 26)), (1, .int p0), (2, .int r1)]) [1, 2, 0] rfl ?_
      exact z_X5_readClaim_B17 hrw hsg b _ _ _ h

set_option maxHeartbeats 200000 in
set_option maxRecDepth 100000 in
theorem k_X5_readClaim_all {l : Launch} {D : va_G} {cy : Nat → ClassId} {T0 tB tE : Nat} {a : Nat → Nat} {rw : Nat → Option Nat} (hrw : ∀ i, i < 6 → rw i = some (a (12 + 2 * i))) : ∀ (d : Nat), ∀ (S : KS) (q0 : Int32) (post : Int32 → KS → Prop), lpn (w_X5_readClaim_R cy tE) (fun _ _ _ => False) d S q0 post → Ct l D cy T0 tB tE yX5_readClaim cX5_readClaim 4 (some .boolean) (4 + 3 * d) (88 + 69 * d) 0 0 (kw cy a rw S) [.ref (a 26), .int q0] (QI D (U := KS) post (kw cy a rw)) := by
  intro d
  induction d with
  | zero => intro _ _ _ h; exact h.elim
  | succ d ih =>
    intro S q0 post h
    have e1 : 4 + 3 * (d + 1) = 4 + 3 * d + 3 := by omega
    have e2 : 88 + 69 * (d + 1) = 88 + 69 * d + 69 := by omega
    rw [e1, e2]
    exact k_X5_readClaim_R hrw (d := d) ih S q0 post h

def w_X5_readEither (cy : Nat → ClassId) (tE : Nat) (S : KS) (p0 : Int32) (post : Int32 → KS → Prop) : Prop := w_X5_readEither_R cy tE (lpn (w_X5_readClaim_R cy tE) (fun _ _ _ => False) 10) S p0 post

set_option maxHeartbeats 200000 in
set_option maxRecDepth 100000 in
theorem k_X5_readEither {l : Launch} {D : va_G} {cy : Nat → ClassId} {T0 tB tE : Nat} {a : Nat → Nat} {rw : Nat → Option Nat} (hrw : ∀ i, i < 6 → rw i = some (a (12 + 2 * i))) (S : KS) (p0 : Int32) (post : Int32 → KS → Prop) (h : w_X5_readEither cy tE S p0 post) : Ct l D cy T0 tB tE yX5_readEither cX5_readEither 5 (some .boolean) 35 801 0 0 (kw cy a rw S) [.ref (a 26), .int p0] (QI D (U := KS) post (kw cy a rw)) := k_X5_readEither_R hrw (d := 10) (k_X5_readClaim_all hrw 10) S p0 post h

def w_X5_readOpened (cy : Nat → ClassId) (tE : Nat) (S : KS) (p0 : Int32) (p1 : Int32) (post : Int32 → KS → Prop) : Prop := w_X5_readOpened_R cy tE (lpn (w_X5_readClaim_R cy tE) (fun _ _ _ => False) 10) S p0 p1 post

set_option maxHeartbeats 200000 in
set_option maxRecDepth 100000 in
theorem k_X5_readOpened {l : Launch} {D : va_G} {cy : Nat → ClassId} {T0 tB tE : Nat} {a : Nat → Nat} {rw : Nat → Option Nat} (hrw : ∀ i, i < 6 → rw i = some (a (12 + 2 * i))) (S : KS) (p0 : Int32) (p1 : Int32) (post : Int32 → KS → Prop) (h : w_X5_readOpened cy tE S p0 p1 post) : Ct l D cy T0 tB tE yX5_readOpened cX5_readOpened 3 (some .boolean) 36 825 0 0 (kw cy a rw S) [.ref (a 26), .int p0, .int p1] (QI D (U := KS) post (kw cy a rw)) := k_X5_readOpened_R hrw (d := 10) (k_X5_readClaim_all hrw 10) S p0 p1 post h

def w_X5_readClaim (cy : Nat → ClassId) (tE : Nat) (S : KS) (p0 : Int32) (post : Int32 → KS → Prop) : Prop := w_X5_readClaim_R cy tE (lpn (w_X5_readClaim_R cy tE) (fun _ _ _ => False) 10) S p0 post

set_option maxHeartbeats 200000 in
set_option maxRecDepth 100000 in
theorem k_X5_readClaim {l : Launch} {D : va_G} {cy : Nat → ClassId} {T0 tB tE : Nat} {a : Nat → Nat} {rw : Nat → Option Nat} (hrw : ∀ i, i < 6 → rw i = some (a (12 + 2 * i))) (S : KS) (p0 : Int32) (post : Int32 → KS → Prop) (h : w_X5_readClaim cy tE S p0 post) : Ct l D cy T0 tB tE yX5_readClaim cX5_readClaim 4 (some .boolean) 37 847 0 0 (kw cy a rw S) [.ref (a 26), .int p0] (QI D (U := KS) post (kw cy a rw)) := k_X5_readClaim_R hrw (d := 10) (k_X5_readClaim_all hrw 10) S p0 post h

def w_X5_readCondition_B20 (cy : Nat → ClassId) (tE : Nat) (post : Int32 → KS → Prop) (S : KS) (y0 : Int32) : Prop :=
  (y0 = 0 ∨ y0 = 1) ∧ post y0 S

set_option maxHeartbeats 200000 in
set_option maxRecDepth 100000 in
theorem z_X5_readCondition_B20 {p : Program} {l : Launch} {e : Env} {R : Room} {s : State} {m : MethodId} {args : Array Value} {below : List Frame} {meth : Method} {c : Code} {D : va_G} {cy : Nat → ClassId} {T0 tB tE : Nat} {A : Nat → Prop} {a : Nat → Nat} {rw : Nat → Option Nat} (hrw : ∀ i, i < 6 → rw i = some (a (12 + 2 * i))) {post : Int32 → KS → Prop} (b : Bz p R s m args meth c D cy T0 tB tE A 1 cX5_readCondition RX5 (some .boolean) "readCondition" 36 825 0 0) (S : KS) (y0 : Int32) (h : w_X5_readCondition_B20 cy tE post S y0) : Z p l e R s m args below meth c D A 1 (MQ below (QI D (U := KS) post (kw cy a rw) A) args s 0 0 A) 0 0 (kw cy a rw S) [] 20 [.int y0] := by
  unfold w_X5_readCondition_B20 at h
  obtain ⟨g3, h⟩ := h
  exact z_zret (u := S) b rfl (z_bool g3) dX5_readCondition_20 h rfl (by decide) (by decide)

def w_X5_readCondition_B19 (cy : Nat → ClassId) (tE : Nat) (post : Int32 → KS → Prop) (S : KS)  : Prop :=
  w_X5_readCondition_B20 cy tE post S 0

set_option maxHeartbeats 200000 in
set_option maxRecDepth 100000 in
theorem z_X5_readCondition_B19 {p : Program} {l : Launch} {e : Env} {R : Room} {s : State} {m : MethodId} {args : Array Value} {below : List Frame} {meth : Method} {c : Code} {D : va_G} {cy : Nat → ClassId} {T0 tB tE : Nat} {A : Nat → Prop} {a : Nat → Nat} {rw : Nat → Option Nat} (hrw : ∀ i, i < 6 → rw i = some (a (12 + 2 * i))) {post : Int32 → KS → Prop} (b : Bz p R s m args meth c D cy T0 tB tE A 1 cX5_readCondition RX5 (some .boolean) "readCondition" 36 825 0 0) (S : KS)  (h : w_X5_readCondition_B19 cy tE post S ) : Z p l e R s m args below meth c D A 1 (MQ below (QI D (U := KS) post (kw cy a rw) A) args s 0 0 A) 0 0 (kw cy a rw S) [] 19 [] := by
  unfold w_X5_readCondition_B19 at h
  refine z_iconst (v := 0) b dX5_readCondition_19 (by decide) ?_
  exact z_X5_readCondition_B20 hrw b _ _ h

def w_X5_readCondition (cy : Nat → ClassId) (tE : Nat) (S : KS)  (post : Int32 → KS → Prop) : Prop :=
  w_X5_readEither cy tE S 0 (fun r1 S2 => ((r1.toInt = 0 → w_X5_readCondition_B19 cy tE post S2) ∧ (r1.toInt ≠ 0 → w_X5_isAtEnd cy tE S2 (fun r4 S5 => ((r4.toInt = 0 → w_X5_readCondition_B19 cy tE post S5) ∧ (r4.toInt ≠ 0 → w_X5_readCondition_B20 cy tE post S5 1))))))

set_option maxHeartbeats 200000 in
set_option maxRecDepth 100000 in
theorem k_X5_readCondition {l : Launch} {D : va_G} {cy : Nat → ClassId} {T0 tB tE : Nat} {a : Nat → Nat} {rw : Nat → Option Nat} (hrw : ∀ i, i < 6 → rw i = some (a (12 + 2 * i))) (S : KS)  (post : Int32 → KS → Prop) (h : w_X5_readCondition cy tE S  post) : Ct l D cy T0 tB tE yX5_readCondition cX5_readCondition 1 (some .boolean) 36 825 0 0 (kw cy a rw S) [.ref (a 26)] (QI D (U := KS) post (kw cy a rw)) := by
  refine Ct.ofZ RX5 "readCondition" [(0, .ref (a 26))] rfl rfl rfl rfl (Nat.le_of_ble_eq_true rfl) ?_
  intro p e R s m args below meth c A b
  unfold w_X5_readCondition at h
  refine z_aload_n b dX5_readCondition_0 rfl rfl ?_
  refine z_iconst (v := 0) b dX5_readCondition_1 (by decide) ?_
  refine z_calli b (z_runV (q0 := 26) (As := [.int 0]) (st := []) b (k_X5_readEither hrw S 0 _ h) cf_X5_readEither (kw_26 cy a rw S) rfl wm_X5_112 wi_X5_readEither ws_X5_readEither dX5_readCondition_2 rfl (Nat.le_of_ble_eq_true rfl) ⟨by decide, by decide, Nat.le_of_ble_eq_true rfl, Nat.le_of_ble_eq_true rfl⟩) (fun r1 S2 h => ?_)
  refine y_if_eq (tgt := 19) (xl := r1.toInt) b rfl dX5_readCondition_5 (by decide) (fun c1 => ?_) (fun c1 => ?_)
  · replace h := h.1 c1
    refine z_lv0 (lv' := []) [] rfl ?_
    exact z_X5_readCondition_B19 hrw b _ h
  · replace h := h.2 c1
    refine z_aload_n b dX5_readCondition_8 rfl rfl ?_
    refine z_calli b (z_runV (q0 := 26) (As := []) (st := []) b (k_X5_isAtEnd hrw S2 _ h) cf_X5_isAtEnd (kw_26 cy a rw S2) rfl wm_X5_155 wi_X5_isAtEnd ws_X5_isAtEnd dX5_readCondition_9 rfl (Nat.le_of_ble_eq_true rfl) ⟨by decide, by decide, Nat.le_of_ble_eq_true rfl, Nat.le_of_ble_eq_true rfl⟩) (fun r4 S5 h => ?_)
    refine y_if_eq (tgt := 19) (xl := r4.toInt) b rfl dX5_readCondition_12 (by decide) (fun c1 => ?_) (fun c1 => ?_)
    · replace h := h.1 c1
      refine z_lv0 (lv' := []) [] rfl ?_
      exact z_X5_readCondition_B19 hrw b _ h
    · replace h := h.2 c1
      refine z_iconst (v := 1) b dX5_readCondition_15 (by decide) ?_
      refine z_goto (tgt := 20) b dX5_readCondition_16 (by decide) ?_
      refine z_lv0 (lv' := []) [] rfl ?_
      exact z_X5_readCondition_B20 hrw b _ _ h

def w_X9_copy (cy : Nat → ClassId) (tE : Nat) (S : KS) (p9 : Nat) (p0 : Nat) (post : KS → Prop) : Prop :=
  (p0 < 5) ∧ (p9 < 5) ∧ (p9 < 5) ∧ (p9 < 5) ∧ (p0 < 5) ∧ (p9 < 5) ∧ post (ksa S (1 + p9) (va_cpy (ar S.1 (1 + p0)) (ar S.1 (1 + p9)) 0 0 51))

set_option maxHeartbeats 200000 in
set_option maxRecDepth 100000 in
theorem k_X9_copy {l : Launch} {D : va_G} {cy : Nat → ClassId} {T0 tB tE : Nat} {a : Nat → Nat} {rw : Nat → Option Nat} (hrw : ∀ i, i < 6 → rw i = some (a (12 + 2 * i))) (S : KS) (p9 : Nat) (p0 : Nat) (post : KS → Prop) (h : w_X9_copy cy tE S p9 p0 post) : Ct l D cy T0 tB tE yX9_copy cX9_copy 2 none 1 40 0 0 (kw cy a rw S) [.ref (a (2 + 2 * p9)), .ref (a (2 + 2 * p0))] (QV D (U := KS) post (kw cy a rw)) := by
  refine Ct.ofZ RX9 "copy" [(0, .ref (a (2 + 2 * p9))), (1, .ref (a (2 + 2 * p0)))] rfl rfl rfl rfl (Nat.le_of_ble_eq_true rfl) ?_
  intro p e R s m args below meth c A b
  unfold w_X9_copy at h
  refine z_aload_n b dX9_copy_0 rfl rfl ?_
  obtain ⟨g1, h⟩ := h
  refine z_get (q0 := 2 + 2 * p0) (k9 := 0) (v := .ref (a (3 + 2 * p0))) b (kw_so cy a rw S g1) rfl in_X9 (by decide) wf_X9_11 rfl dX9_copy_1 ?_
  refine z_iconst (v := 0) b dX9_copy_4 (by decide) ?_
  refine z_aload_n b dX9_copy_5 rfl rfl ?_
  obtain ⟨g2, h⟩ := h
  refine z_get (q0 := 2 + 2 * p9) (k9 := 0) (v := .ref (a (3 + 2 * p9))) b (kw_so cy a rw S g2) rfl in_X9 (by decide) wf_X9_11 rfl dX9_copy_6 ?_
  refine z_iconst (v := 0) b dX9_copy_9 (by decide) ?_
  refine z_aload_n b dX9_copy_10 rfl rfl ?_
  obtain ⟨g3, h⟩ := h
  refine z_get (q0 := 2 + 2 * p9) (k9 := 0) (v := .ref (a (3 + 2 * p9))) b (kw_so cy a rw S g3) rfl in_X9 (by decide) wf_X9_11 rfl dX9_copy_11 ?_
  obtain ⟨g4, h⟩ := h
  refine z_alen (q0 := 3 + 2 * p9) (t0 := 0) (v := 51) b (kw_sr cy a rw S g4) rfl rfl dX9_copy_14 ?_
  obtain ⟨g5, h⟩ := h
  obtain ⟨g6, h⟩ := h
  refine z_copyi (q0 := 3 + 2 * p0) (q1 := 3 + 2 * p9) (j0 := 0) (j1 := 0) (jn := 51) b wm_X9_26 wn_arraycopy ws_arraycopy wi_System (kw_sr (j := p0) cy a rw S g5) (kw_sr (j := p9) cy a rw S g6) (by decide) (by decide) (by decide) (by decide) (by decide) (by decide) (by decide +kernel) dX9_copy_15 (kwf_sr (j := p9) cy a rw S g6 _) ?_
  exact z_vret (u := (ksa S (1 + p9) (va_cpy (ar S.1 (1 + p0)) (ar S.1 (1 + p9)) 0 0 51))) b rfl dX9_copy_18 h rfl (by decide) (by decide)

def w_X10_withLetter (cy : Nat → ClassId) (tE : Nat) (S : KS) (p0 : Int64) (p1 : Int32) (post : Int64 → KS → Prop) : Prop :=
  post ((((p0 * 32) + (p1 : Int32).toInt64) - 97) + 1) S

set_option maxHeartbeats 200000 in
set_option maxRecDepth 100000 in
theorem k_X10_withLetter {l : Launch} {D : va_G} {cy : Nat → ClassId} {T0 tB tE : Nat} {a : Nat → Nat} {rw : Nat → Option Nat} (hrw : ∀ i, i < 6 → rw i = some (a (12 + 2 * i))) (S : KS) (p0 : Int64) (p1 : Int32) (post : Int64 → KS → Prop) (h : w_X10_withLetter cy tE S p0 p1 post) : Ct l D cy T0 tB tE yX10_withLetter cX10_withLetter 3 (some .long) 0 0 0 0 (kw cy a rw S) [.long p0, .int p1] (QL D (U := KS) post (kw cy a rw)) := by
  refine Ct.ofZ RX10 "withLetter" [(0, .long p0), (2, .int p1)] rfl rfl rfl rfl (Nat.le_of_ble_eq_true rfl) ?_
  intro p e R s m args below meth c A b
  unfold w_X10_withLetter at h
  refine z_lload_n b dX10_withLetter_0 rfl rfl ?_
  refine z_ldc2 b wl_X10_79 dX10_withLetter_1 ?_
  refine z_lmul b dX10_withLetter_4 rfl ?_
  refine z_iload_n b dX10_withLetter_5 rfl rfl ?_
  refine z_i2l b dX10_withLetter_6 rfl ?_
  refine z_ladd b dX10_withLetter_7 rfl ?_
  refine z_ldc2 b wl_X10_81 dX10_withLetter_8 ?_
  refine z_lsub b dX10_withLetter_11 rfl ?_
  refine z_lconst (v := 1) b dX10_withLetter_12 (by decide) ?_
  refine z_ladd b dX10_withLetter_13 rfl ?_
  exact z_lret (u := S) b rfl dX10_withLetter_14 h rfl (by decide) (by decide)

def w_X7_add_B19 (cy : Nat → ClassId) (tE : Nat) (post : Int32 → KS → Prop) (S : KS)  : Prop :=
  post (-1) S

set_option maxHeartbeats 200000 in
set_option maxRecDepth 100000 in
theorem z_X7_add_B19 {p : Program} {l : Launch} {e : Env} {R : Room} {s : State} {m : MethodId} {args : Array Value} {below : List Frame} {meth : Method} {c : Code} {D : va_G} {cy : Nat → ClassId} {T0 tB tE : Nat} {A : Nat → Prop} {a : Nat → Nat} {rw : Nat → Option Nat} (hrw : ∀ i, i < 6 → rw i = some (a (12 + 2 * i))) {post : Int32 → KS → Prop} (b : Bz p R s m args meth c D cy T0 tB tE A 2 cX7_add RX7 (some .int) "add" 0 0 0 0) (S : KS)  (h : w_X7_add_B19 cy tE post S ) : Z p l e R s m args below meth c D A 2 (MQ below (QI D (U := KS) post (kw cy a rw) A) args s 0 0 A) 0 0 (kw cy a rw S) [] 19 [] := by
  unfold w_X7_add_B19 at h
  refine z_iconst (v := (-1)) b dX7_add_19 (by decide) ?_
  exact z_iret (u := S) b rfl dX7_add_20 h rfl (by decide) (by decide)

def w_X7_add (cy : Nat → ClassId) (tE : Nat) (S : KS) (p9 : Nat) (p0 : Int32) (post : Int32 → KS → Prop) : Prop :=
  (p9 < 7) ∧ (((fi S.1 (1 + 2 * p9)).toInt < 0 → w_X7_add_B19 cy tE post S) ∧ (0 ≤ (fi S.1 (1 + 2 * p9)).toInt → (p9 < 7) ∧ (p9 < 7) ∧ (p9 < 7) ∧ (((fi S.1 (1 + 2 * p9)).toInt < (Int32.ofNat (rowN p9)).toInt → (p9 < 7) ∧ (p9 < 7) ∧ (p9 < 7) ∧ (0 ≤ (fi S.1 (1 + 2 * p9)).toInt ∧ (fi S.1 (1 + 2 * p9)).toInt < (rowN p9 : Nat)) ∧ (p9 < 7) ∧ (p9 < 7) ∧ (p9 < 7) ∧ post (fi (ksi (ksu S (6 + p9) ((fi S.1 (1 + 2 * p9)).toNatClampNeg) p0) (1 + 2 * p9) ((fi S.1 (1 + 2 * p9)) + 1)).1 (1 + 2 * p9)) (ksi (ksu S (6 + p9) ((fi S.1 (1 + 2 * p9)).toNatClampNeg) p0) (1 + 2 * p9) ((fi S.1 (1 + 2 * p9)) + 1))) ∧ ((Int32.ofNat (rowN p9)).toInt ≤ (fi S.1 (1 + 2 * p9)).toInt → w_X7_add_B19 cy tE post S))))

set_option maxHeartbeats 200000 in
set_option maxRecDepth 100000 in
theorem k_X7_add {l : Launch} {D : va_G} {cy : Nat → ClassId} {T0 tB tE : Nat} {a : Nat → Nat} {rw : Nat → Option Nat} (hrw : ∀ i, i < 6 → rw i = some (a (12 + 2 * i))) (S : KS) (p9 : Nat) (p0 : Int32) (post : Int32 → KS → Prop) (h : w_X7_add cy tE S p9 p0 post) : Ct l D cy T0 tB tE yX7_add cX7_add 2 (some .int) 0 0 0 0 (kw cy a rw S) [.ref (a (12 + 2 * p9)), .int p0] (QI D (U := KS) post (kw cy a rw)) := by
  refine Ct.ofZ RX7 "add" [(0, .ref (a (12 + 2 * p9))), (1, .int p0)] rfl rfl rfl rfl (Nat.le_of_ble_eq_true rfl) ?_
  intro p e R s m args below meth c A b
  unfold w_X7_add at h
  refine z_aload_n b dX7_add_0 rfl rfl ?_
  obtain ⟨g1, h⟩ := h
  refine z_get (q0 := 12 + 2 * p9) (k9 := 1) (v := .int (fi S.1 (1 + 2 * p9))) b (kw_ro cy a rw S g1) rfl in_X7 (by decide) wf_X7_9 rfl dX7_add_1 ?_
  refine y_if_lt (tgt := 19) (xl := (fi S.1 (1 + 2 * p9)).toInt) b rfl dX7_add_4 (by decide) (fun c1 => ?_) (fun c1 => ?_)
  · replace h := h.1 c1
    refine z_lv0 (lv' := []) [] rfl ?_
    exact z_X7_add_B19 hrw b _ h
  · replace h := h.2 c1
    refine z_aload_n b dX7_add_7 rfl rfl ?_
    obtain ⟨g2, h⟩ := h
    refine z_get (q0 := 12 + 2 * p9) (k9 := 1) (v := .int (fi S.1 (1 + 2 * p9))) b (kw_ro cy a rw S g2) rfl in_X7 (by decide) wf_X7_9 rfl dX7_add_8 ?_
    refine z_aload_n b dX7_add_11 rfl rfl ?_
    obtain ⟨g3, h⟩ := h
    refine z_get (q0 := 12 + 2 * p9) (k9 := 0) (v := .ref (a (13 + 2 * p9))) b (kw_ro cy a rw S g3) rfl in_X7 (by decide) wf_X7_25 rfl dX7_add_12 ?_
    obtain ⟨g4, h⟩ := h
    refine z_alen (q0 := 13 + 2 * p9) (t0 := 0) (v := (Int32.ofNat (rowN p9))) b (kw_rr cy a rw S g4) rfl rfl dX7_add_15 ?_
    refine y_icmp_lt (tgt := 21) (xl := (fi S.1 (1 + 2 * p9)).toInt) (yl := (Int32.ofNat (rowN p9)).toInt) b rfl rfl dX7_add_16 (by decide) (fun c1 => ?_) (fun c1 => ?_)
    · replace h := h.1 c1
      refine z_aload_n b dX7_add_21 rfl rfl ?_
      obtain ⟨g5, h⟩ := h
      refine z_get (q0 := 12 + 2 * p9) (k9 := 0) (v := .ref (a (13 + 2 * p9))) b (kw_ro cy a rw S g5) rfl in_X7 (by decide) wf_X7_25 rfl dX7_add_22 ?_
      refine z_aload_n b dX7_add_25 rfl rfl ?_
      obtain ⟨g6, h⟩ := h
      refine z_get (q0 := 12 + 2 * p9) (k9 := 1) (v := .int (fi S.1 (1 + 2 * p9))) b (kw_ro cy a rw S g6) rfl in_X7 (by decide) wf_X7_9 rfl dX7_add_26 ?_
      refine z_iload_n b dX7_add_29 rfl rfl ?_
      obtain ⟨g7, h⟩ := h
      obtain ⟨g8, h⟩ := h
      refine y_iast (q0 := 13 + 2 * p9) (j := (fi S.1 (1 + 2 * p9)).toNatClampNeg) b (kw_rr cy a rw S g7) (zx_r g8.1 g8.2) dX7_add_30 (kwa_rr cy a rw S g7 ((fi S.1 (1 + 2 * p9)).toNatClampNeg) p0) ?_
      refine z_aload_n b dX7_add_31 rfl rfl ?_
      refine z_dup b dX7_add_32 rfl ?_
      obtain ⟨g9, h⟩ := h
      refine z_get (q0 := 12 + 2 * p9) (k9 := 1) (v := .int (fi S.1 (1 + 2 * p9))) b (kw_ro cy a rw (ksu S (6 + p9) ((fi S.1 (1 + 2 * p9)).toNatClampNeg) p0) g9) rfl in_X7 (by decide) wf_X7_9 rfl dX7_add_33 ?_
      refine z_iconst (v := 1) b dX7_add_36 (by decide) ?_
      refine z_iadd b dX7_add_37 rfl ?_
      obtain ⟨g10, h⟩ := h
      refine z_put (q0 := 12 + 2 * p9) (k9 := 1) tyX7 b (kw_ro cy a rw (ksu S (6 + p9) ((fi S.1 (1 + 2 * p9)).toNatClampNeg) p0) g10) rfl in_X7 tyX7_ok nmX7 (by decide) wf_X7_9 rfl rfl rfl rfl (Nat.le_of_ble_eq_true rfl) dX7_add_38 (kwp_ro_1 cy a rw (ksu S (6 + p9) ((fi S.1 (1 + 2 * p9)).toNatClampNeg) p0) g10 ((fi S.1 (1 + 2 * p9)) + 1)) ?_
      refine z_aload_n b dX7_add_41 rfl rfl ?_
      obtain ⟨g11, h⟩ := h
      refine z_get (q0 := 12 + 2 * p9) (k9 := 1) (v := .int (fi (ksi (ksu S (6 + p9) ((fi S.1 (1 + 2 * p9)).toNatClampNeg) p0) (1 + 2 * p9) ((fi S.1 (1 + 2 * p9)) + 1)).1 (1 + 2 * p9))) b (kw_ro cy a rw (ksi (ksu S (6 + p9) ((fi S.1 (1 + 2 * p9)).toNatClampNeg) p0) (1 + 2 * p9) ((fi S.1 (1 + 2 * p9)) + 1)) g11) rfl in_X7 (by decide) wf_X7_9 rfl dX7_add_42 ?_
      exact z_iret (u := (ksi (ksu S (6 + p9) ((fi S.1 (1 + 2 * p9)).toNatClampNeg) p0) (1 + 2 * p9) ((fi S.1 (1 + 2 * p9)) + 1))) b rfl dX7_add_45 h rfl (by decide) (by decide)
    · replace h := h.2 c1
      refine z_lv0 (lv' := []) [] rfl ?_
      exact z_X7_add_B19 hrw b _ h

def w_X11_past_B22 (cy : Nat → ClassId) (tE : Nat) (post : Int32 → KS → Prop) (S : KS) (y0 : Int32) : Prop :=
  post y0 S

set_option maxHeartbeats 200000 in
set_option maxRecDepth 100000 in
theorem z_X11_past_B22 {p : Program} {l : Launch} {e : Env} {R : Room} {s : State} {m : MethodId} {args : Array Value} {below : List Frame} {meth : Method} {c : Code} {D : va_G} {cy : Nat → ClassId} {T0 tB tE : Nat} {A : Nat → Prop} {a : Nat → Nat} {rw : Nat → Option Nat} (hrw : ∀ i, i < 6 → rw i = some (a (12 + 2 * i))) {post : Int32 → KS → Prop} (b : Bz p R s m args meth c D cy T0 tB tE A 2 cX11_past RX11 (some .int) "past" 1 21 0 0) (S : KS) (y0 : Int32) (h : w_X11_past_B22 cy tE post S y0) : Z p l e R s m args below meth c D A 2 (MQ below (QI D (U := KS) post (kw cy a rw) A) args s 0 0 A) 0 0 (kw cy a rw S) [] 22 [.int y0] := by
  unfold w_X11_past_B22 at h
  exact z_iret (u := S) b rfl dX11_past_22 h rfl (by decide) (by decide)

def w_X11_past (cy : Nat → ClassId) (tE : Nat) (S : KS) (p0 : Int32) (post : Int32 → KS → Prop) : Prop :=
  w_X11_isWithin cy tE S p0 767 (fun r1 S2 => ((r1.toInt = 0 → w_X11_past_B22 cy tE post S2 (-1)) ∧ (r1.toInt ≠ 0 → w_X7_add cy tE S2 6 p0 (fun r3 S4 => w_X11_past_B22 cy tE post S4 r3))))

set_option maxHeartbeats 200000 in
set_option maxRecDepth 100000 in
theorem k_X11_past {l : Launch} {D : va_G} {cy : Nat → ClassId} {T0 tB tE : Nat} {a : Nat → Nat} {rw : Nat → Option Nat} (hrw : ∀ i, i < 6 → rw i = some (a (12 + 2 * i))) (S : KS) (p0 : Int32) (post : Int32 → KS → Prop) (h : w_X11_past cy tE S p0 post) : Ct l D cy T0 tB tE yX11_past cX11_past 2 (some .int) 1 21 0 0 (kw cy a rw S) [.ref (a 0), .int p0] (QI D (U := KS) post (kw cy a rw)) := by
  refine Ct.ofZ RX11 "past" [(0, .ref (a 0)), (1, .int p0)] rfl rfl rfl rfl (Nat.le_of_ble_eq_true rfl) ?_
  intro p e R s m args below meth c A b
  unfold w_X11_past at h
  refine z_iload_n b dX11_past_0 rfl rfl ?_
  refine z_sipush (v := 767) b dX11_past_1 (by decide) ?_
  refine z_calli b (z_runS (As := [.int p0, .int 767]) (st := []) b (k_X11_isWithin hrw S p0 767 _ h) cf_X11_isWithin wm_X11_73 ws_X11_isWithin dX11_past_4 rfl (Nat.le_of_ble_eq_true rfl) ⟨by decide, by decide, Nat.le_of_ble_eq_true rfl, Nat.le_of_ble_eq_true rfl⟩) (fun r1 S2 h => ?_)
  refine y_if_eq (tgt := 21) (xl := r1.toInt) b rfl dX11_past_7 (by decide) (fun c1 => ?_) (fun c1 => ?_)
  · replace h := h.1 c1
    refine z_iconst (v := (-1)) b dX11_past_21 (by decide) ?_
    refine z_lv0 (lv' := []) [] rfl ?_
    exact z_X11_past_B22 hrw b _ _ h
  · replace h := h.2 c1
    refine z_aload_n b dX11_past_10 rfl rfl ?_
    refine z_get (q0 := 0) (k9 := 8) (v := .ref (a 24)) b (kw_0 cy a rw S2) rfl in_X11 (by decide) wf_X11_65 rfl dX11_past_11 ?_
    refine z_iload_n b dX11_past_14 rfl rfl ?_
    refine z_calli b (z_runV (q0 := 24) (As := [.int p0]) (st := []) b (k_X7_add hrw S2 6 p0 _ h) cf_X7_add (kw_24 cy a rw S2) rfl wm_X11_172 wi_X7_add ws_X7_add dX11_past_15 rfl (Nat.le_of_ble_eq_true rfl) ⟨by decide, by decide, Nat.le_of_ble_eq_true rfl, Nat.le_of_ble_eq_true rfl⟩) (fun r3 S4 h => ?_)
    refine z_goto (tgt := 22) b dX11_past_18 (by decide) ?_
    refine z_lv0 (lv' := []) [] rfl ?_
    exact z_X11_past_B22 hrw b _ _ h

def w_X10_add_B52 (cy : Nat → ClassId) (tE : Nat) (post : KS → Prop) (S : KS)  : Prop :=
  post S

set_option maxHeartbeats 200000 in
set_option maxRecDepth 100000 in
theorem z_X10_add_B52 {p : Program} {l : Launch} {e : Env} {R : Room} {s : State} {m : MethodId} {args : Array Value} {below : List Frame} {meth : Method} {c : Code} {D : va_G} {cy : Nat → ClassId} {T0 tB tE : Nat} {A : Nat → Prop} {a : Nat → Nat} {rw : Nat → Option Nat} (hrw : ∀ i, i < 6 → rw i = some (a (12 + 2 * i))) {post : KS → Prop} (b : Bz p R s m args meth c D cy T0 tB tE A 5 cX10_add RX10 none "add" 0 0 0 0) (S : KS)  (h : w_X10_add_B52 cy tE post S ) : Z p l e R s m args below meth c D A 5 (MQ below (QV D (U := KS) post (kw cy a rw) A) args s 0 0 A) 0 0 (kw cy a rw S) [] 52 [] := by
  unfold w_X10_add_B52 at h
  exact z_vret (u := S) b rfl dX10_add_52 h rfl (by decide) (by decide)

def w_X10_add (cy : Nat → ClassId) (tE : Nat) (S : KS) (p0 : Int32) (p1 : Int32) (p2 : Int64) (post : KS → Prop) : Prop :=
  ((701 ≤ (fi S.1 21).toInt → w_X10_add_B52 cy tE post S) ∧ ((fi S.1 21).toInt < 701 → (0 ≤ (fi S.1 21).toInt ∧ (fi S.1 21).toInt < 701) ∧ (0 ≤ (fi S.1 21).toInt ∧ (fi S.1 21).toInt < 701) ∧ (0 ≤ (fi S.1 21).toInt ∧ (fi S.1 21).toInt < 701) ∧ w_X10_add_B52 cy tE post (ksi (ksv (ksu (ksu S 13 ((fi S.1 21).toNatClampNeg) p0) 14 ((fi S.1 21).toNatClampNeg) p1) 1 ((fi S.1 21).toNatClampNeg) p2) 21 ((fi S.1 21) + 1))))

set_option maxHeartbeats 200000 in
set_option maxRecDepth 100000 in
theorem k_X10_add {l : Launch} {D : va_G} {cy : Nat → ClassId} {T0 tB tE : Nat} {a : Nat → Nat} {rw : Nat → Option Nat} (hrw : ∀ i, i < 6 → rw i = some (a (12 + 2 * i))) (S : KS) (p0 : Int32) (p1 : Int32) (p2 : Int64) (post : KS → Prop) (h : w_X10_add cy tE S p0 p1 p2 post) : Ct l D cy T0 tB tE yX10_add cX10_add 5 none 0 0 0 0 (kw cy a rw S) [.ref (a 27), .int p0, .int p1, .long p2] (QV D (U := KS) post (kw cy a rw)) := by
  refine Ct.ofZ RX10 "add" [(0, .ref (a 27)), (1, .int p0), (2, .int p1), (3, .long p2)] rfl rfl rfl rfl (Nat.le_of_ble_eq_true rfl) ?_
  intro p e R s m args below meth c A b
  unfold w_X10_add at h
  refine z_aload_n b dX10_add_0 rfl rfl ?_
  refine z_get (q0 := 27) (k9 := 4) (v := .int (fi S.1 21)) b (kw_27 cy a rw S) rfl in_X10 (by decide) wf_X10_25 rfl dX10_add_1 ?_
  refine z_aload_n b dX10_add_4 rfl rfl ?_
  refine z_get (q0 := 27) (k9 := 1) (v := .ref (a 29)) b (kw_27 cy a rw S) rfl in_X10 (by decide) wf_X10_15 rfl dX10_add_5 ?_
  refine z_alen (q0 := 29) (t0 := 0) (v := 701) b (kw_29 cy a rw S) rfl rfl dX10_add_8 ?_
  refine y_icmp_ge (tgt := 52) (xl := (fi S.1 21).toInt) (yl := 701) b rfl (by decide) dX10_add_9 (by decide) (fun c1 => ?_) (fun c1 => ?_)
  · replace h := h.1 c1
    refine z_lv0 (lv' := []) [] rfl ?_
    exact z_X10_add_B52 hrw b _ h
  · replace h := h.2 c1
    refine z_aload_n b dX10_add_12 rfl rfl ?_
    refine z_get (q0 := 27) (k9 := 1) (v := .ref (a 29)) b (kw_27 cy a rw S) rfl in_X10 (by decide) wf_X10_15 rfl dX10_add_13 ?_
    refine z_aload_n b dX10_add_16 rfl rfl ?_
    refine z_get (q0 := 27) (k9 := 4) (v := .int (fi S.1 21)) b (kw_27 cy a rw S) rfl in_X10 (by decide) wf_X10_25 rfl dX10_add_17 ?_
    refine z_iload_n b dX10_add_20 rfl rfl ?_
    obtain ⟨g1, h⟩ := h
    refine y_iast (q0 := 29) (j := (fi S.1 21).toNatClampNeg) b (kw_29 cy a rw S) (zx_r g1.1 g1.2) dX10_add_21 (kwa_29 cy a rw S ((fi S.1 21).toNatClampNeg) p0) ?_
    refine z_aload_n b dX10_add_22 rfl rfl ?_
    refine z_get (q0 := 27) (k9 := 2) (v := .ref (a 30)) b (kw_27 cy a rw (ksu S 13 ((fi S.1 21).toNatClampNeg) p0)) rfl in_X10 (by decide) wf_X10_19 rfl dX10_add_23 ?_
    refine z_aload_n b dX10_add_26 rfl rfl ?_
    refine z_get (q0 := 27) (k9 := 4) (v := .int (fi S.1 21)) b (kw_27 cy a rw (ksu S 13 ((fi S.1 21).toNatClampNeg) p0)) rfl in_X10 (by decide) wf_X10_25 rfl dX10_add_27 ?_
    refine z_iload_n b dX10_add_30 rfl rfl ?_
    obtain ⟨g2, h⟩ := h
    refine y_iast (q0 := 30) (j := (fi S.1 21).toNatClampNeg) b (kw_30 cy a rw (ksu S 13 ((fi S.1 21).toNatClampNeg) p0)) (zx_r g2.1 g2.2) dX10_add_31 (kwa_30 cy a rw (ksu S 13 ((fi S.1 21).toNatClampNeg) p0) ((fi S.1 21).toNatClampNeg) p1) ?_
    refine z_aload_n b dX10_add_32 rfl rfl ?_
    refine z_get (q0 := 27) (k9 := 3) (v := .ref (a 31)) b (kw_27 cy a rw (ksu (ksu S 13 ((fi S.1 21).toNatClampNeg) p0) 14 ((fi S.1 21).toNatClampNeg) p1)) rfl in_X10 (by decide) wf_X10_22 rfl dX10_add_33 ?_
    refine z_aload_n b dX10_add_36 rfl rfl ?_
    refine z_get (q0 := 27) (k9 := 4) (v := .int (fi S.1 21)) b (kw_27 cy a rw (ksu (ksu S 13 ((fi S.1 21).toNatClampNeg) p0) 14 ((fi S.1 21).toNatClampNeg) p1)) rfl in_X10 (by decide) wf_X10_25 rfl dX10_add_37 ?_
    refine z_lload_n b dX10_add_40 rfl rfl ?_
    obtain ⟨g3, h⟩ := h
    refine y_last (q0 := 31) (j := (fi S.1 21).toNatClampNeg) b (kw_31 cy a rw (ksu (ksu S 13 ((fi S.1 21).toNatClampNeg) p0) 14 ((fi S.1 21).toNatClampNeg) p1)) (zx_r g3.1 g3.2) dX10_add_41 (kwa_31 cy a rw (ksu (ksu S 13 ((fi S.1 21).toNatClampNeg) p0) 14 ((fi S.1 21).toNatClampNeg) p1) ((fi S.1 21).toNatClampNeg) p2) ?_
    refine z_aload_n b dX10_add_42 rfl rfl ?_
    refine z_dup b dX10_add_43 rfl ?_
    refine z_get (q0 := 27) (k9 := 4) (v := .int (fi S.1 21)) b (kw_27 cy a rw (ksv (ksu (ksu S 13 ((fi S.1 21).toNatClampNeg) p0) 14 ((fi S.1 21).toNatClampNeg) p1) 1 ((fi S.1 21).toNatClampNeg) p2)) rfl in_X10 (by decide) wf_X10_25 rfl dX10_add_44 ?_
    refine z_iconst (v := 1) b dX10_add_47 (by decide) ?_
    refine z_iadd b dX10_add_48 rfl ?_
    refine z_put (q0 := 27) (k9 := 4) tyX10 b (kw_27 cy a rw (ksv (ksu (ksu S 13 ((fi S.1 21).toNatClampNeg) p0) 14 ((fi S.1 21).toNatClampNeg) p1) 1 ((fi S.1 21).toNatClampNeg) p2)) rfl in_X10 tyX10_ok nmX10 (by decide) wf_X10_25 rfl rfl rfl rfl (Nat.le_of_ble_eq_true rfl) dX10_add_49 (kwp_27_4 cy a rw (ksv (ksu (ksu S 13 ((fi S.1 21).toNatClampNeg) p0) 14 ((fi S.1 21).toNatClampNeg) p1) 1 ((fi S.1 21).toNatClampNeg) p2) ((fi S.1 21) + 1)) ?_
    refine z_lv0 (lv' := []) [] rfl ?_
    exact z_X10_add_B52 hrw b _ h

def w_X10_readNumber_F6 (cy : Nat → ClassId) (tE : Nat) (post : Int32 → KS → Prop) (k43 : KS → Int32 → Int32 → Int32 → Prop) (k6 : KS → Int32 → Int32 → Int32 → Int32 → Prop) (S : KS) (x2 : Int32) (x3 : Int32) (x4 : Int32) (x5 : Int32) : Prop :=
  ((x3.toInt ≤ x5.toInt → k43 S x2 x4 x5) ∧ (x5.toInt < x3.toInt → (0 ≤ x5.toInt ∧ x5.toInt < 700) ∧ w_X10_isDigit cy tE S ((ar S.1 0) x5.toNatClampNeg) (fun r2 S3 => ((r2.toInt = 0 → k43 S3 x2 x4 x5) ∧ (r2.toInt ≠ 0 → (0 ≤ x5.toInt ∧ x5.toInt < 700) ∧ k6 S3 x2 x3 ((((10 : Int32) * x4) + ((ar S3.1 0) x5.toNatClampNeg)) - 48) (x5 + 1))))))

set_option maxHeartbeats 200000 in
set_option maxRecDepth 100000 in
theorem z_X10_readNumber_F6 {p : Program} {l : Launch} {e : Env} {R : Room} {s : State} {m : MethodId} {args : Array Value} {below : List Frame} {meth : Method} {c : Code} {D : va_G} {cy : Nat → ClassId} {T0 tB tE : Nat} {A : Nat → Prop} {a : Nat → Nat} {rw : Nat → Option Nat} (hrw : ∀ i, i < 6 → rw i = some (a (12 + 2 * i))) {post : Int32 → KS → Prop} {k43 : KS → Int32 → Int32 → Int32 → Prop} {k6 : KS → Int32 → Int32 → Int32 → Int32 → Prop} (b : Bz p R s m args meth c D cy T0 tB tE A 6 cX10_readNumber RX10 (some .int) "readNumber" 1 24 0 0) (hk43 : ∀ (S : KS) (x2 : Int32) (x4 : Int32) (x5 : Int32), k43 S x2 x4 x5 → Z p l e R s m args below meth c D A 6 (MQ below (QI D (U := KS) post (kw cy a rw) A) args s 0 0 A) 0 0 (kw cy a rw S) [(0, .ref (a 27)), (2, .int x2), (4, .int x4), (5, .int x5)] 43 []) (hk6 : ∀ (S : KS) (x2 : Int32) (x3 : Int32) (x4 : Int32) (x5 : Int32), k6 S x2 x3 x4 x5 → Z p l e R s m args below meth c D A 6 (MQ below (QI D (U := KS) post (kw cy a rw) A) args s 0 0 A) 0 0 (kw cy a rw S) [(0, .ref (a 27)), (1, .ref (a 1)), (2, .int x2), (3, .int x3), (4, .int x4), (5, .int x5)] 6 []) (S : KS) (x2 : Int32) (x3 : Int32) (x4 : Int32) (x5 : Int32) (h : w_X10_readNumber_F6 cy tE post k43 k6 S x2 x3 x4 x5) : Z p l e R s m args below meth c D A 6 (MQ below (QI D (U := KS) post (kw cy a rw) A) args s 0 0 A) 0 0 (kw cy a rw S) [(0, .ref (a 27)), (1, .ref (a 1)), (2, .int x2), (3, .int x3), (4, .int x4), (5, .int x5)] 6 [] := by
  unfold w_X10_readNumber_F6 at h
  refine z_iload b dX10_readNumber_6 rfl ?_
  refine z_iload_n b dX10_readNumber_8 rfl rfl ?_
  refine y_icmp_ge (tgt := 43) (xl := x5.toInt) (yl := x3.toInt) b rfl rfl dX10_readNumber_9 (by decide) (fun c1 => ?_) (fun c1 => ?_)
  · replace h := h.1 c1
    refine z_lv0 (lv' := [(0, .ref (a 27)), (2, .int x2), (4, .int x4), (5, .int x5)]) [0, 2, 4, 5] rfl ?_
    exact hk43 _ _ _ _ h
  · replace h := h.2 c1
    refine z_aload_n b dX10_readNumber_12 rfl rfl ?_
    refine z_iload b dX10_readNumber_13 rfl ?_
    obtain ⟨g1, h⟩ := h
    refine y_iald (q0 := 1) (j := x5.toNatClampNeg) (v := ((ar S.1 0) x5.toNatClampNeg)) b (kw_1 cy a rw S) (zx_r g1.1 g1.2) rfl dX10_readNumber_15 ?_
    refine z_calli b (z_runS (As := [.int ((ar S.1 0) x5.toNatClampNeg)]) (st := []) b (k_X10_isDigit hrw S ((ar S.1 0) x5.toNatClampNeg) _ h) cf_X10_isDigit wm_X10_59 ws_X10_isDigit dX10_readNumber_16 rfl (Nat.le_of_ble_eq_true rfl) ⟨by decide, by decide, Nat.le_of_ble_eq_true rfl, Nat.le_of_ble_eq_true rfl⟩) (fun r2 S3 h => ?_)
    refine y_if_eq (tgt := 43) (xl := r2.toInt) b rfl dX10_readNumber_19 (by decide) (fun c1 => ?_) (fun c1 => ?_)
    · replace h := h.1 c1
      refine z_lv0 (lv' := [(0, .ref (a 27)), (2, .int x2), (4, .int x4), (5, .int x5)]) [0, 2, 4, 5] rfl ?_
      exact hk43 _ _ _ _ h
    · replace h := h.2 c1
      refine z_bipush (v := 10) b dX10_readNumber_22 (by decide) ?_
      refine z_iload b dX10_readNumber_24 rfl ?_
      refine z_imul b dX10_readNumber_26 rfl ?_
      refine z_aload_n b dX10_readNumber_27 rfl rfl ?_
      refine z_iload b dX10_readNumber_28 rfl ?_
      obtain ⟨g4, h⟩ := h
      refine y_iald (q0 := 1) (j := x5.toNatClampNeg) (v := ((ar S3.1 0) x5.toNatClampNeg)) b (kw_1 cy a rw S3) (zx_r g4.1 g4.2) rfl dX10_readNumber_30 ?_
      refine z_iadd b dX10_readNumber_31 rfl ?_
      refine z_bipush (v := 48) b dX10_readNumber_32 (by decide) ?_
      refine z_isub b dX10_readNumber_34 rfl ?_
      refine z_istore (lv' := [(4, .int ((((10 : Int32) * x4) + ((ar S3.1 0) x5.toNatClampNeg)) - 48)), (0, .ref (a 27)), (1, .ref (a 1)), (2, .int x2), (3, .int x3), (5, .int x5)]) b dX10_readNumber_35 (by decide) rfl ?_
      refine z_iinc (k9 := 5) (v := (x5 + 1)) (lv' := [(5, .int (x5 + 1)), (4, .int ((((10 : Int32) * x4) + ((ar S3.1 0) x5.toNatClampNeg)) - 48)), (0, .ref (a 27)), (1, .ref (a 1)), (2, .int x2), (3, .int x3)]) b dX10_readNumber_37 rfl rfl (by decide) rfl ?_
      refine z_goto (tgt := 6) b dX10_readNumber_40 (by decide) ?_
      refine z_lv0 (lv' := [(0, .ref (a 27)), (1, .ref (a 1)), (2, .int x2), (3, .int x3), (4, .int ((((10 : Int32) * x4) + ((ar S3.1 0) x5.toNatClampNeg)) - 48)), (5, .int (x5 + 1))]) [2, 3, 4, 5, 1, 0] rfl ?_
      exact hk6 _ _ _ _ _ h

set_option maxHeartbeats 200000 in
set_option maxRecDepth 100000 in
theorem zl_X10_readNumber_L6 {p : Program} {l : Launch} {e : Env} {R : Room} {s : State} {m : MethodId} {args : Array Value} {below : List Frame} {meth : Method} {c : Code} {D : va_G} {cy : Nat → ClassId} {T0 tB tE : Nat} {A : Nat → Prop} {a : Nat → Nat} {rw : Nat → Option Nat} (hrw : ∀ i, i < 6 → rw i = some (a (12 + 2 * i))) {post : Int32 → KS → Prop} {k43 : KS → Int32 → Int32 → Int32 → Prop} (b : Bz p R s m args meth c D cy T0 tB tE A 6 cX10_readNumber RX10 (some .int) "readNumber" 1 24 0 0) (hk43 : ∀ (S : KS) (x2 : Int32) (x4 : Int32) (x5 : Int32), k43 S x2 x4 x5 → Z p l e R s m args below meth c D A 6 (MQ below (QI D (U := KS) post (kw cy a rw) A) args s 0 0 A) 0 0 (kw cy a rw S) [(0, .ref (a 27)), (2, .int x2), (4, .int x4), (5, .int x5)] 43 []) : ∀ (n : Nat) (S : KS) (x2 : Int32) (x3 : Int32) (x4 : Int32) (x5 : Int32), lpn (w_X10_readNumber_F6 cy tE post k43) (fun _ _ _ _ _ => False) n S x2 x3 x4 x5 → Z p l e R s m args below meth c D A 6 (MQ below (QI D (U := KS) post (kw cy a rw) A) args s 0 0 A) 0 0 (kw cy a rw S) [(0, .ref (a 27)), (1, .ref (a 1)), (2, .int x2), (3, .int x3), (4, .int x4), (5, .int x5)] 6 [] := by
  intro n
  induction n with
  | zero => intro _ _ _ _ _ h; exact h.elim
  | succ n ih => intro S x2 x3 x4 x5 h; exact z_X10_readNumber_F6 hrw b hk43 ih S x2 x3 x4 x5 h

def w_X10_readNumber_B57 (cy : Nat → ClassId) (tE : Nat) (post : Int32 → KS → Prop) (S : KS) (x2 : Int32) (x4 : Int32) (x5 : Int32) (y0 : Int32) : Prop :=
  w_X10_add cy tE S y0 x2 ((x4 : Int32).toInt64) (fun S6 => post x5 S6)

set_option maxHeartbeats 200000 in
set_option maxRecDepth 100000 in
theorem z_X10_readNumber_B57 {p : Program} {l : Launch} {e : Env} {R : Room} {s : State} {m : MethodId} {args : Array Value} {below : List Frame} {meth : Method} {c : Code} {D : va_G} {cy : Nat → ClassId} {T0 tB tE : Nat} {A : Nat → Prop} {a : Nat → Nat} {rw : Nat → Option Nat} (hrw : ∀ i, i < 6 → rw i = some (a (12 + 2 * i))) {post : Int32 → KS → Prop} (b : Bz p R s m args meth c D cy T0 tB tE A 6 cX10_readNumber RX10 (some .int) "readNumber" 1 24 0 0) (S : KS) (x2 : Int32) (x4 : Int32) (x5 : Int32) (y0 : Int32) (h : w_X10_readNumber_B57 cy tE post S x2 x4 x5 y0) : Z p l e R s m args below meth c D A 6 (MQ below (QI D (U := KS) post (kw cy a rw) A) args s 0 0 A) 0 0 (kw cy a rw S) [(2, .int x2), (4, .int x4), (5, .int x5)] 57 [.int y0, .ref (a 27)] := by
  unfold w_X10_readNumber_B57 at h
  refine z_iload_n b dX10_readNumber_57 rfl rfl ?_
  refine z_iload b dX10_readNumber_58 rfl ?_
  refine z_i2l b dX10_readNumber_60 rfl ?_
  refine z_callv b (z_runV (q0 := 27) (As := [.int y0, .int x2, .long (x4 : Int32).toInt64]) (st := []) b (k_X10_add hrw S y0 x2 ((x4 : Int32).toInt64) _ h) cf_X10_add (kw_27 cy a rw S) rfl wm_X10_71 wi_X10_add ws_X10_add dX10_readNumber_61 rfl (Nat.le_of_ble_eq_true rfl) ⟨by decide, by decide, Nat.le_of_ble_eq_true rfl, Nat.le_of_ble_eq_true rfl⟩) (fun S6 h => ?_)
  refine z_iload b dX10_readNumber_64 rfl ?_
  exact z_iret (u := S6) b rfl dX10_readNumber_66 h rfl (by decide) (by decide)

def w_X10_readNumber_B43 (cy : Nat → ClassId) (tE : Nat) (post : Int32 → KS → Prop) (S : KS) (x2 : Int32) (x4 : Int32) (x5 : Int32) : Prop :=
  ((3 < (x5 - x2).toInt → w_X10_readNumber_B57 cy tE post S x2 x4 x5 1) ∧ ((x5 - x2).toInt ≤ 3 → w_X10_readNumber_B57 cy tE post S x2 x4 x5 2))

set_option maxHeartbeats 200000 in
set_option maxRecDepth 100000 in
theorem z_X10_readNumber_B43 {p : Program} {l : Launch} {e : Env} {R : Room} {s : State} {m : MethodId} {args : Array Value} {below : List Frame} {meth : Method} {c : Code} {D : va_G} {cy : Nat → ClassId} {T0 tB tE : Nat} {A : Nat → Prop} {a : Nat → Nat} {rw : Nat → Option Nat} (hrw : ∀ i, i < 6 → rw i = some (a (12 + 2 * i))) {post : Int32 → KS → Prop} (b : Bz p R s m args meth c D cy T0 tB tE A 6 cX10_readNumber RX10 (some .int) "readNumber" 1 24 0 0) (S : KS) (x2 : Int32) (x4 : Int32) (x5 : Int32) (h : w_X10_readNumber_B43 cy tE post S x2 x4 x5) : Z p l e R s m args below meth c D A 6 (MQ below (QI D (U := KS) post (kw cy a rw) A) args s 0 0 A) 0 0 (kw cy a rw S) [(0, .ref (a 27)), (2, .int x2), (4, .int x4), (5, .int x5)] 43 [] := by
  unfold w_X10_readNumber_B43 at h
  refine z_aload_n b dX10_readNumber_43 rfl rfl ?_
  refine z_iload b dX10_readNumber_44 rfl ?_
  refine z_iload_n b dX10_readNumber_46 rfl rfl ?_
  refine z_isub b dX10_readNumber_47 rfl ?_
  refine z_iconst (v := 3) b dX10_readNumber_48 (by decide) ?_
  refine y_icmp_gt (tgt := 56) (xl := (x5 - x2).toInt) (yl := 3) b rfl (by decide) dX10_readNumber_49 (by decide) (fun c1 => ?_) (fun c1 => ?_)
  · replace h := h.1 c1
    refine z_iconst (v := 1) b dX10_readNumber_56 (by decide) ?_
    refine z_lv0 (lv' := [(2, .int x2), (4, .int x4), (5, .int x5)]) [1, 2, 3] rfl ?_
    exact z_X10_readNumber_B57 hrw b _ _ _ _ _ h
  · replace h := h.2 c1
    refine z_iconst (v := 2) b dX10_readNumber_52 (by decide) ?_
    refine z_goto (tgt := 57) b dX10_readNumber_53 (by decide) ?_
    refine z_lv0 (lv' := [(2, .int x2), (4, .int x4), (5, .int x5)]) [1, 2, 3] rfl ?_
    exact z_X10_readNumber_B57 hrw b _ _ _ _ _ h

def w_X10_readNumber (cy : Nat → ClassId) (tE : Nat) (S : KS) (p1 : Int32) (p2 : Int32) (post : Int32 → KS → Prop) : Prop :=
  ∃ n, lpn (w_X10_readNumber_F6 cy tE post (w_X10_readNumber_B43 cy tE post)) (fun _ _ _ _ _ => False) n S p1 p2 0 p1

set_option maxHeartbeats 200000 in
set_option maxRecDepth 100000 in
theorem k_X10_readNumber {l : Launch} {D : va_G} {cy : Nat → ClassId} {T0 tB tE : Nat} {a : Nat → Nat} {rw : Nat → Option Nat} (hrw : ∀ i, i < 6 → rw i = some (a (12 + 2 * i))) (S : KS) (p1 : Int32) (p2 : Int32) (post : Int32 → KS → Prop) (h : w_X10_readNumber cy tE S p1 p2 post) : Ct l D cy T0 tB tE yX10_readNumber cX10_readNumber 6 (some .int) 1 24 0 0 (kw cy a rw S) [.ref (a 27), .ref (a 1), .int p1, .int p2] (QI D (U := KS) post (kw cy a rw)) := by
  refine Ct.ofZ RX10 "readNumber" [(0, .ref (a 27)), (1, .ref (a 1)), (2, .int p1), (3, .int p2)] rfl rfl rfl rfl (Nat.le_of_ble_eq_true rfl) ?_
  intro p e R s m args below meth c A b
  unfold w_X10_readNumber at h
  refine z_iconst (v := 0) b dX10_readNumber_0 (by decide) ?_
  refine z_istore (lv' := [(4, .int 0), (0, .ref (a 27)), (1, .ref (a 1)), (2, .int p1), (3, .int p2)]) b dX10_readNumber_1 (by decide) rfl ?_
  refine z_iload_n b dX10_readNumber_3 rfl rfl ?_
  refine z_istore (lv' := [(5, .int p1), (4, .int 0), (0, .ref (a 27)), (1, .ref (a 1)), (2, .int p1), (3, .int p2)]) b dX10_readNumber_4 (by decide) rfl ?_
  refine z_lv0 (lv' := [(0, .ref (a 27)), (1, .ref (a 1)), (2, .int p1), (3, .int p2), (4, .int 0), (5, .int p1)]) [2, 3, 4, 5, 1, 0] rfl ?_
  obtain ⟨n, h⟩ := h
  exact zl_X10_readNumber_L6 hrw b (fun S x2 x4 x5 h => z_X10_readNumber_B43 hrw b _ _ _ _ h) n _ _ _ _ _ h

def w_X10_kindOfWord_F11 (cy : Nat → ClassId) (tE : Nat) (post : Int32 → KS → Prop) (k44 : KS → Int32 → Prop) (k11 : KS → Int64 → Int32 → Int32 → Prop) (S : KS) (x1 : Int64) (x3 : Int32) (x4 : Int32) : Prop :=
  ((19 ≤ x4.toInt → k44 S x3) ∧ (x4.toInt < 19 → (0 ≤ x4.toInt ∧ x4.toInt < 19) ∧ (((lg_cmp ((al S.1 0) x4.toNatClampNeg) x1).toInt ≠ 0 → k11 S x1 x3 (x4 + 1)) ∧ ((lg_cmp ((al S.1 0) x4.toNatClampNeg) x1).toInt = 0 → post ((4 : Int32) + x4) S))))

set_option maxHeartbeats 200000 in
set_option maxRecDepth 100000 in
theorem z_X10_kindOfWord_F11 {p : Program} {l : Launch} {e : Env} {R : Room} {s : State} {m : MethodId} {args : Array Value} {below : List Frame} {meth : Method} {c : Code} {D : va_G} {cy : Nat → ClassId} {T0 tB tE : Nat} {A : Nat → Prop} {a : Nat → Nat} {rw : Nat → Option Nat} (hrw : ∀ i, i < 6 → rw i = some (a (12 + 2 * i))) {post : Int32 → KS → Prop} {k44 : KS → Int32 → Prop} {k11 : KS → Int64 → Int32 → Int32 → Prop} (b : Bz p R s m args meth c D cy T0 tB tE A 5 cX10_kindOfWord RX10 (some .int) "kindOfWord" 0 0 0 0) (hk44 : ∀ (S : KS) (x3 : Int32), k44 S x3 → Z p l e R s m args below meth c D A 5 (MQ below (QI D (U := KS) post (kw cy a rw) A) args s 0 0 A) 0 0 (kw cy a rw S) [(3, .int x3)] 44 []) (hk11 : ∀ (S : KS) (x1 : Int64) (x3 : Int32) (x4 : Int32), k11 S x1 x3 x4 → Z p l e R s m args below meth c D A 5 (MQ below (QI D (U := KS) post (kw cy a rw) A) args s 0 0 A) 0 0 (kw cy a rw S) [(0, .ref (a 27)), (1, .long x1), (3, .int x3), (4, .int x4)] 11 []) (S : KS) (x1 : Int64) (x3 : Int32) (x4 : Int32) (h : w_X10_kindOfWord_F11 cy tE post k44 k11 S x1 x3 x4) : Z p l e R s m args below meth c D A 5 (MQ below (QI D (U := KS) post (kw cy a rw) A) args s 0 0 A) 0 0 (kw cy a rw S) [(0, .ref (a 27)), (1, .long x1), (3, .int x3), (4, .int x4)] 11 [] := by
  unfold w_X10_kindOfWord_F11 at h
  refine z_iload b dX10_kindOfWord_11 rfl ?_
  refine z_aload_n b dX10_kindOfWord_13 rfl rfl ?_
  refine z_get (q0 := 27) (k9 := 0) (v := .ref (a 28)) b (kw_27 cy a rw S) rfl in_X10 (by decide) wf_X10_11 rfl dX10_kindOfWord_14 ?_
  refine z_alen (q0 := 28) (t0 := 1) (v := 19) b (kw_28 cy a rw S) rfl rfl dX10_kindOfWord_17 ?_
  refine y_icmp_ge (tgt := 44) (xl := x4.toInt) (yl := 19) b rfl (by decide) dX10_kindOfWord_18 (by decide) (fun c1 => ?_) (fun c1 => ?_)
  · replace h := h.1 c1
    refine z_lv0 (lv' := [(3, .int x3)]) [2] rfl ?_
    exact hk44 _ _ h
  · replace h := h.2 c1
    refine z_aload_n b dX10_kindOfWord_21 rfl rfl ?_
    refine z_get (q0 := 27) (k9 := 0) (v := .ref (a 28)) b (kw_27 cy a rw S) rfl in_X10 (by decide) wf_X10_11 rfl dX10_kindOfWord_22 ?_
    refine z_iload b dX10_kindOfWord_25 rfl ?_
    obtain ⟨g1, h⟩ := h
    refine y_lald (q0 := 28) (j := x4.toNatClampNeg) (v := ((al S.1 0) x4.toNatClampNeg)) b (kw_28 cy a rw S) (zx_r g1.1 g1.2) rfl dX10_kindOfWord_27 ?_
    refine z_lload_n b dX10_kindOfWord_28 rfl rfl ?_
    refine z_lcmp b dX10_kindOfWord_29 rfl ?_
    refine y_if_ne (tgt := 38) (xl := (lg_cmp ((al S.1 0) x4.toNatClampNeg) x1).toInt) b rfl dX10_kindOfWord_30 (by decide) (fun c1 => ?_) (fun c1 => ?_)
    · replace h := h.1 c1
      refine z_iinc (k9 := 3) (v := (x4 + 1)) (lv' := [(4, .int (x4 + 1)), (0, .ref (a 27)), (1, .long x1), (3, .int x3)]) b dX10_kindOfWord_38 rfl rfl (by decide) rfl ?_
      refine z_goto (tgt := 11) b dX10_kindOfWord_41 (by decide) ?_
      refine z_lv0 (lv' := [(0, .ref (a 27)), (1, .long x1), (3, .int x3), (4, .int (x4 + 1))]) [1, 2, 3, 0] rfl ?_
      exact hk11 _ _ _ _ h
    · replace h := h.2 c1
      refine z_iconst (v := 4) b dX10_kindOfWord_33 (by decide) ?_
      refine z_iload b dX10_kindOfWord_34 rfl ?_
      refine z_iadd b dX10_kindOfWord_36 rfl ?_
      exact z_iret (u := S) b rfl dX10_kindOfWord_37 h rfl (by decide) (by decide)

set_option maxHeartbeats 200000 in
set_option maxRecDepth 100000 in
theorem zl_X10_kindOfWord_L11 {p : Program} {l : Launch} {e : Env} {R : Room} {s : State} {m : MethodId} {args : Array Value} {below : List Frame} {meth : Method} {c : Code} {D : va_G} {cy : Nat → ClassId} {T0 tB tE : Nat} {A : Nat → Prop} {a : Nat → Nat} {rw : Nat → Option Nat} (hrw : ∀ i, i < 6 → rw i = some (a (12 + 2 * i))) {post : Int32 → KS → Prop} {k44 : KS → Int32 → Prop} (b : Bz p R s m args meth c D cy T0 tB tE A 5 cX10_kindOfWord RX10 (some .int) "kindOfWord" 0 0 0 0) (hk44 : ∀ (S : KS) (x3 : Int32), k44 S x3 → Z p l e R s m args below meth c D A 5 (MQ below (QI D (U := KS) post (kw cy a rw) A) args s 0 0 A) 0 0 (kw cy a rw S) [(3, .int x3)] 44 []) : ∀ (n : Nat) (S : KS) (x1 : Int64) (x3 : Int32) (x4 : Int32), lpn (w_X10_kindOfWord_F11 cy tE post k44) (fun _ _ _ _ => False) n S x1 x3 x4 → Z p l e R s m args below meth c D A 5 (MQ below (QI D (U := KS) post (kw cy a rw) A) args s 0 0 A) 0 0 (kw cy a rw S) [(0, .ref (a 27)), (1, .long x1), (3, .int x3), (4, .int x4)] 11 [] := by
  intro n
  induction n with
  | zero => intro _ _ _ _ h; exact h.elim
  | succ n ih => intro S x1 x3 x4 h; exact z_X10_kindOfWord_F11 hrw b hk44 ih S x1 x3 x4 h

def w_X10_kindOfWord_B54 (cy : Nat → ClassId) (tE : Nat) (post : Int32 → KS → Prop) (S : KS) (y0 : Int32) : Prop :=
  post y0 S

set_option maxHeartbeats 200000 in
set_option maxRecDepth 100000 in
theorem z_X10_kindOfWord_B54 {p : Program} {l : Launch} {e : Env} {R : Room} {s : State} {m : MethodId} {args : Array Value} {below : List Frame} {meth : Method} {c : Code} {D : va_G} {cy : Nat → ClassId} {T0 tB tE : Nat} {A : Nat → Prop} {a : Nat → Nat} {rw : Nat → Option Nat} (hrw : ∀ i, i < 6 → rw i = some (a (12 + 2 * i))) {post : Int32 → KS → Prop} (b : Bz p R s m args meth c D cy T0 tB tE A 5 cX10_kindOfWord RX10 (some .int) "kindOfWord" 0 0 0 0) (S : KS) (y0 : Int32) (h : w_X10_kindOfWord_B54 cy tE post S y0) : Z p l e R s m args below meth c D A 5 (MQ below (QI D (U := KS) post (kw cy a rw) A) args s 0 0 A) 0 0 (kw cy a rw S) [] 54 [.int y0] := by
  unfold w_X10_kindOfWord_B54 at h
  exact z_iret (u := S) b rfl dX10_kindOfWord_54 h rfl (by decide) (by decide)

def w_X10_kindOfWord_B44 (cy : Nat → ClassId) (tE : Nat) (post : Int32 → KS → Prop) (S : KS) (x3 : Int32) : Prop :=
  ((x3.toInt ≤ 1 → w_X10_kindOfWord_B54 cy tE post S 1) ∧ (1 < x3.toInt → w_X10_kindOfWord_B54 cy tE post S 3))

set_option maxHeartbeats 200000 in
set_option maxRecDepth 100000 in
theorem z_X10_kindOfWord_B44 {p : Program} {l : Launch} {e : Env} {R : Room} {s : State} {m : MethodId} {args : Array Value} {below : List Frame} {meth : Method} {c : Code} {D : va_G} {cy : Nat → ClassId} {T0 tB tE : Nat} {A : Nat → Prop} {a : Nat → Nat} {rw : Nat → Option Nat} (hrw : ∀ i, i < 6 → rw i = some (a (12 + 2 * i))) {post : Int32 → KS → Prop} (b : Bz p R s m args meth c D cy T0 tB tE A 5 cX10_kindOfWord RX10 (some .int) "kindOfWord" 0 0 0 0) (S : KS) (x3 : Int32) (h : w_X10_kindOfWord_B44 cy tE post S x3) : Z p l e R s m args below meth c D A 5 (MQ below (QI D (U := KS) post (kw cy a rw) A) args s 0 0 A) 0 0 (kw cy a rw S) [(3, .int x3)] 44 [] := by
  unfold w_X10_kindOfWord_B44 at h
  refine z_iload_n b dX10_kindOfWord_44 rfl rfl ?_
  refine z_iconst (v := 1) b dX10_kindOfWord_45 (by decide) ?_
  refine y_icmp_le (tgt := 53) (xl := x3.toInt) (yl := 1) b rfl (by decide) dX10_kindOfWord_46 (by decide) (fun c1 => ?_) (fun c1 => ?_)
  · replace h := h.1 c1
    refine z_iconst (v := 1) b dX10_kindOfWord_53 (by decide) ?_
    refine z_lv0 (lv' := []) [] rfl ?_
    exact z_X10_kindOfWord_B54 hrw b _ _ h
  · replace h := h.2 c1
    refine z_iconst (v := 3) b dX10_kindOfWord_49 (by decide) ?_
    refine z_goto (tgt := 54) b dX10_kindOfWord_50 (by decide) ?_
    refine z_lv0 (lv' := []) [] rfl ?_
    exact z_X10_kindOfWord_B54 hrw b _ _ h

def w_X10_kindOfWord (cy : Nat → ClassId) (tE : Nat) (S : KS) (p0 : Int64) (p1 : Int32) (post : Int32 → KS → Prop) : Prop :=
  ((p1.toInt ≤ 8 → ∃ n, lpn (w_X10_kindOfWord_F11 cy tE post (w_X10_kindOfWord_B44 cy tE post)) (fun _ _ _ _ => False) n S p0 p1 0) ∧ (8 < p1.toInt → post 1 S))

set_option maxHeartbeats 200000 in
set_option maxRecDepth 100000 in
theorem k_X10_kindOfWord {l : Launch} {D : va_G} {cy : Nat → ClassId} {T0 tB tE : Nat} {a : Nat → Nat} {rw : Nat → Option Nat} (hrw : ∀ i, i < 6 → rw i = some (a (12 + 2 * i))) (S : KS) (p0 : Int64) (p1 : Int32) (post : Int32 → KS → Prop) (h : w_X10_kindOfWord cy tE S p0 p1 post) : Ct l D cy T0 tB tE yX10_kindOfWord cX10_kindOfWord 5 (some .int) 0 0 0 0 (kw cy a rw S) [.ref (a 27), .long p0, .int p1] (QI D (U := KS) post (kw cy a rw)) := by
  refine Ct.ofZ RX10 "kindOfWord" [(0, .ref (a 27)), (1, .long p0), (3, .int p1)] rfl rfl rfl rfl (Nat.le_of_ble_eq_true rfl) ?_
  intro p e R s m args below meth c A b
  unfold w_X10_kindOfWord at h
  refine z_iload_n b dX10_kindOfWord_0 rfl rfl ?_
  refine z_bipush (v := 8) b dX10_kindOfWord_1 (by decide) ?_
  refine y_icmp_le (tgt := 8) (xl := p1.toInt) (yl := 8) b rfl (by decide) dX10_kindOfWord_3 (by decide) (fun c1 => ?_) (fun c1 => ?_)
  · replace h := h.1 c1
    refine z_iconst (v := 0) b dX10_kindOfWord_8 (by decide) ?_
    refine z_istore (lv' := [(4, .int 0), (0, .ref (a 27)), (1, .long p0), (3, .int p1)]) b dX10_kindOfWord_9 (by decide) rfl ?_
    refine z_lv0 (lv' := [(0, .ref (a 27)), (1, .long p0), (3, .int p1), (4, .int 0)]) [1, 2, 3, 0] rfl ?_
    obtain ⟨n, h⟩ := h
    exact zl_X10_kindOfWord_L11 hrw b (fun S x3 h => z_X10_kindOfWord_B44 hrw b _ _ h) n _ _ _ _ h
  · replace h := h.2 c1
    refine z_iconst (v := 1) b dX10_kindOfWord_6 (by decide) ?_
    exact z_iret (u := S) b rfl dX10_kindOfWord_7 h rfl (by decide) (by decide)

def w_X10_readWord_B42 (cy : Nat → ClassId) (tE : Nat) (post : Int32 → KS → Prop) (k6 : KS → Int32 → Int32 → Int64 → Int32 → Prop) (k48 : KS → Int32 → Int64 → Int32 → Prop) (S : KS) (x2 : Int32) (x3 : Int32) (x4 : Int64) (x6 : Int32) : Prop :=
  k6 S x2 x3 x4 (x6 + 1)

set_option maxHeartbeats 200000 in
set_option maxRecDepth 100000 in
theorem z_X10_readWord_B42 {p : Program} {l : Launch} {e : Env} {R : Room} {s : State} {m : MethodId} {args : Array Value} {below : List Frame} {meth : Method} {c : Code} {D : va_G} {cy : Nat → ClassId} {T0 tB tE : Nat} {A : Nat → Prop} {a : Nat → Nat} {rw : Nat → Option Nat} (hrw : ∀ i, i < 6 → rw i = some (a (12 + 2 * i))) {post : Int32 → KS → Prop} {k6 : KS → Int32 → Int32 → Int64 → Int32 → Prop} {k48 : KS → Int32 → Int64 → Int32 → Prop} (b : Bz p R s m args meth c D cy T0 tB tE A 7 cX10_readWord RX10 (some .int) "readWord" 1 24 0 0) (hk6 : ∀ (S : KS) (x2 : Int32) (x3 : Int32) (x4 : Int64) (x6 : Int32), k6 S x2 x3 x4 x6 → Z p l e R s m args below meth c D A 7 (MQ below (QI D (U := KS) post (kw cy a rw) A) args s 0 0 A) 0 0 (kw cy a rw S) [(0, .ref (a 27)), (1, .ref (a 1)), (2, .int x2), (3, .int x3), (4, .long x4), (6, .int x6)] 6 []) (hk48 : ∀ (S : KS) (x2 : Int32) (x4 : Int64) (x6 : Int32), k48 S x2 x4 x6 → Z p l e R s m args below meth c D A 7 (MQ below (QI D (U := KS) post (kw cy a rw) A) args s 0 0 A) 0 0 (kw cy a rw S) [(0, .ref (a 27)), (2, .int x2), (4, .long x4), (6, .int x6)] 48 []) (S : KS) (x2 : Int32) (x3 : Int32) (x4 : Int64) (x6 : Int32) (h : w_X10_readWord_B42 cy tE post k6 k48 S x2 x3 x4 x6) : Z p l e R s m args below meth c D A 7 (MQ below (QI D (U := KS) post (kw cy a rw) A) args s 0 0 A) 0 0 (kw cy a rw S) [(0, .ref (a 27)), (1, .ref (a 1)), (2, .int x2), (3, .int x3), (4, .long x4), (6, .int x6)] 42 [] := by
  unfold w_X10_readWord_B42 at h
  refine z_iinc (k9 := 5) (v := (x6 + 1)) (lv' := [(6, .int (x6 + 1)), (0, .ref (a 27)), (1, .ref (a 1)), (2, .int x2), (3, .int x3), (4, .long x4)]) b dX10_readWord_42 rfl rfl (by decide) rfl ?_
  refine z_goto (tgt := 6) b dX10_readWord_45 (by decide) ?_
  refine z_lv0 (lv' := [(0, .ref (a 27)), (1, .ref (a 1)), (2, .int x2), (3, .int x3), (4, .long x4), (6, .int (x6 + 1))]) [1, 2, 3, 4, 5, 0] rfl ?_
  exact hk6 _ _ _ _ _ h

def w_X10_readWord_F6 (cy : Nat → ClassId) (tE : Nat) (post : Int32 → KS → Prop) (k48 : KS → Int32 → Int64 → Int32 → Prop) (k6 : KS → Int32 → Int32 → Int64 → Int32 → Prop) (S : KS) (x2 : Int32) (x3 : Int32) (x4 : Int64) (x6 : Int32) : Prop :=
  ((x3.toInt ≤ x6.toInt → k48 S x2 x4 x6) ∧ (x6.toInt < x3.toInt → (0 ≤ x6.toInt ∧ x6.toInt < 700) ∧ w_X10_isLetter cy tE S ((ar S.1 0) x6.toNatClampNeg) (fun r2 S3 => ((r2.toInt = 0 → k48 S3 x2 x4 x6) ∧ (r2.toInt ≠ 0 → ((8 ≤ (x6 - x2).toInt → w_X10_readWord_B42 cy tE post k6 k48 S3 x2 x3 x4 x6) ∧ ((x6 - x2).toInt < 8 → (0 ≤ x6.toInt ∧ x6.toInt < 700) ∧ w_X10_withLetter cy tE S3 x4 ((ar S3.1 0) x6.toNatClampNeg) (fun r5 S6 => w_X10_readWord_B42 cy tE post k6 k48 S6 x2 x3 r5 x6))))))))

set_option maxHeartbeats 200000 in
set_option maxRecDepth 100000 in
theorem z_X10_readWord_F6 {p : Program} {l : Launch} {e : Env} {R : Room} {s : State} {m : MethodId} {args : Array Value} {below : List Frame} {meth : Method} {c : Code} {D : va_G} {cy : Nat → ClassId} {T0 tB tE : Nat} {A : Nat → Prop} {a : Nat → Nat} {rw : Nat → Option Nat} (hrw : ∀ i, i < 6 → rw i = some (a (12 + 2 * i))) {post : Int32 → KS → Prop} {k48 : KS → Int32 → Int64 → Int32 → Prop} {k6 : KS → Int32 → Int32 → Int64 → Int32 → Prop} (b : Bz p R s m args meth c D cy T0 tB tE A 7 cX10_readWord RX10 (some .int) "readWord" 1 24 0 0) (hk48 : ∀ (S : KS) (x2 : Int32) (x4 : Int64) (x6 : Int32), k48 S x2 x4 x6 → Z p l e R s m args below meth c D A 7 (MQ below (QI D (U := KS) post (kw cy a rw) A) args s 0 0 A) 0 0 (kw cy a rw S) [(0, .ref (a 27)), (2, .int x2), (4, .long x4), (6, .int x6)] 48 []) (hk6 : ∀ (S : KS) (x2 : Int32) (x3 : Int32) (x4 : Int64) (x6 : Int32), k6 S x2 x3 x4 x6 → Z p l e R s m args below meth c D A 7 (MQ below (QI D (U := KS) post (kw cy a rw) A) args s 0 0 A) 0 0 (kw cy a rw S) [(0, .ref (a 27)), (1, .ref (a 1)), (2, .int x2), (3, .int x3), (4, .long x4), (6, .int x6)] 6 []) (S : KS) (x2 : Int32) (x3 : Int32) (x4 : Int64) (x6 : Int32) (h : w_X10_readWord_F6 cy tE post k48 k6 S x2 x3 x4 x6) : Z p l e R s m args below meth c D A 7 (MQ below (QI D (U := KS) post (kw cy a rw) A) args s 0 0 A) 0 0 (kw cy a rw S) [(0, .ref (a 27)), (1, .ref (a 1)), (2, .int x2), (3, .int x3), (4, .long x4), (6, .int x6)] 6 [] := by
  unfold w_X10_readWord_F6 at h
  refine z_iload b dX10_readWord_6 rfl ?_
  refine z_iload_n b dX10_readWord_8 rfl rfl ?_
  refine y_icmp_ge (tgt := 48) (xl := x6.toInt) (yl := x3.toInt) b rfl rfl dX10_readWord_9 (by decide) (fun c1 => ?_) (fun c1 => ?_)
  · replace h := h.1 c1
    refine z_lv0 (lv' := [(0, .ref (a 27)), (2, .int x2), (4, .long x4), (6, .int x6)]) [0, 2, 4, 5] rfl ?_
    exact hk48 _ _ _ _ h
  · replace h := h.2 c1
    refine z_aload_n b dX10_readWord_12 rfl rfl ?_
    refine z_iload b dX10_readWord_13 rfl ?_
    obtain ⟨g1, h⟩ := h
    refine y_iald (q0 := 1) (j := x6.toNatClampNeg) (v := ((ar S.1 0) x6.toNatClampNeg)) b (kw_1 cy a rw S) (zx_r g1.1 g1.2) rfl dX10_readWord_15 ?_
    refine z_calli b (z_runS (As := [.int ((ar S.1 0) x6.toNatClampNeg)]) (st := []) b (k_X10_isLetter hrw S ((ar S.1 0) x6.toNatClampNeg) _ h) cf_X10_isLetter wm_X10_41 ws_X10_isLetter dX10_readWord_16 rfl (Nat.le_of_ble_eq_true rfl) ⟨by decide, by decide, Nat.le_of_ble_eq_true rfl, Nat.le_of_ble_eq_true rfl⟩) (fun r2 S3 h => ?_)
    refine y_if_eq (tgt := 48) (xl := r2.toInt) b rfl dX10_readWord_19 (by decide) (fun c1 => ?_) (fun c1 => ?_)
    · replace h := h.1 c1
      refine z_lv0 (lv' := [(0, .ref (a 27)), (2, .int x2), (4, .long x4), (6, .int x6)]) [0, 2, 4, 5] rfl ?_
      exact hk48 _ _ _ _ h
    · replace h := h.2 c1
      refine z_iload b dX10_readWord_22 rfl ?_
      refine z_iload_n b dX10_readWord_24 rfl rfl ?_
      refine z_isub b dX10_readWord_25 rfl ?_
      refine z_bipush (v := 8) b dX10_readWord_26 (by decide) ?_
      refine y_icmp_ge (tgt := 42) (xl := (x6 - x2).toInt) (yl := 8) b rfl (by decide) dX10_readWord_28 (by decide) (fun c1 => ?_) (fun c1 => ?_)
      · replace h := h.1 c1
        exact z_X10_readWord_B42 hrw b hk6 hk48 _ _ _ _ _ h
      · replace h := h.2 c1
        refine z_lload b dX10_readWord_31 rfl ?_
        refine z_aload_n b dX10_readWord_33 rfl rfl ?_
        refine z_iload b dX10_readWord_34 rfl ?_
        obtain ⟨g4, h⟩ := h
        refine y_iald (q0 := 1) (j := x6.toNatClampNeg) (v := ((ar S3.1 0) x6.toNatClampNeg)) b (kw_1 cy a rw S3) (zx_r g4.1 g4.2) rfl dX10_readWord_36 ?_
        refine z_calll b (z_runS (As := [.long x4, .int ((ar S3.1 0) x6.toNatClampNeg)]) (st := []) b (k_X10_withLetter hrw S3 x4 ((ar S3.1 0) x6.toNatClampNeg) _ h) cf_X10_withLetter wm_X10_45 ws_X10_withLetter dX10_readWord_37 rfl (Nat.le_of_ble_eq_true rfl) ⟨by decide, by decide, Nat.le_of_ble_eq_true rfl, Nat.le_of_ble_eq_true rfl⟩) (fun r5 S6 h => ?_)
        refine z_lstore (lv' := [(4, .long r5), (0, .ref (a 27)), (1, .ref (a 1)), (2, .int x2), (3, .int x3), (6, .int x6)]) b dX10_readWord_40 (by decide) rfl ?_
        refine z_lv0 (lv' := [(0, .ref (a 27)), (1, .ref (a 1)), (2, .int x2), (3, .int x3), (4, .long r5), (6, .int x6)]) [1, 2, 3, 4, 0, 5] rfl ?_
        exact z_X10_readWord_B42 hrw b hk6 hk48 _ _ _ _ _ h

set_option maxHeartbeats 200000 in
set_option maxRecDepth 100000 in
theorem zl_X10_readWord_L6 {p : Program} {l : Launch} {e : Env} {R : Room} {s : State} {m : MethodId} {args : Array Value} {below : List Frame} {meth : Method} {c : Code} {D : va_G} {cy : Nat → ClassId} {T0 tB tE : Nat} {A : Nat → Prop} {a : Nat → Nat} {rw : Nat → Option Nat} (hrw : ∀ i, i < 6 → rw i = some (a (12 + 2 * i))) {post : Int32 → KS → Prop} {k48 : KS → Int32 → Int64 → Int32 → Prop} (b : Bz p R s m args meth c D cy T0 tB tE A 7 cX10_readWord RX10 (some .int) "readWord" 1 24 0 0) (hk48 : ∀ (S : KS) (x2 : Int32) (x4 : Int64) (x6 : Int32), k48 S x2 x4 x6 → Z p l e R s m args below meth c D A 7 (MQ below (QI D (U := KS) post (kw cy a rw) A) args s 0 0 A) 0 0 (kw cy a rw S) [(0, .ref (a 27)), (2, .int x2), (4, .long x4), (6, .int x6)] 48 []) : ∀ (n : Nat) (S : KS) (x2 : Int32) (x3 : Int32) (x4 : Int64) (x6 : Int32), lpn (w_X10_readWord_F6 cy tE post k48) (fun _ _ _ _ _ => False) n S x2 x3 x4 x6 → Z p l e R s m args below meth c D A 7 (MQ below (QI D (U := KS) post (kw cy a rw) A) args s 0 0 A) 0 0 (kw cy a rw S) [(0, .ref (a 27)), (1, .ref (a 1)), (2, .int x2), (3, .int x3), (4, .long x4), (6, .int x6)] 6 [] := by
  intro n
  induction n with
  | zero => intro _ _ _ _ _ h; exact h.elim
  | succ n ih => intro S x2 x3 x4 x6 h; exact z_X10_readWord_F6 hrw b hk48 ih S x2 x3 x4 x6 h

def w_X10_readWord_B48 (cy : Nat → ClassId) (tE : Nat) (post : Int32 → KS → Prop) (S : KS) (x2 : Int32) (x4 : Int64) (x6 : Int32) : Prop :=
  w_X10_kindOfWord cy tE S x4 (x6 - x2) (fun r7 S8 => w_X10_add cy tE S8 r7 x2 x4 (fun S10 => post x6 S10))

set_option maxHeartbeats 200000 in
set_option maxRecDepth 100000 in
theorem z_X10_readWord_B48 {p : Program} {l : Launch} {e : Env} {R : Room} {s : State} {m : MethodId} {args : Array Value} {below : List Frame} {meth : Method} {c : Code} {D : va_G} {cy : Nat → ClassId} {T0 tB tE : Nat} {A : Nat → Prop} {a : Nat → Nat} {rw : Nat → Option Nat} (hrw : ∀ i, i < 6 → rw i = some (a (12 + 2 * i))) {post : Int32 → KS → Prop} (b : Bz p R s m args meth c D cy T0 tB tE A 7 cX10_readWord RX10 (some .int) "readWord" 1 24 0 0) (S : KS) (x2 : Int32) (x4 : Int64) (x6 : Int32) (h : w_X10_readWord_B48 cy tE post S x2 x4 x6) : Z p l e R s m args below meth c D A 7 (MQ below (QI D (U := KS) post (kw cy a rw) A) args s 0 0 A) 0 0 (kw cy a rw S) [(0, .ref (a 27)), (2, .int x2), (4, .long x4), (6, .int x6)] 48 [] := by
  unfold w_X10_readWord_B48 at h
  refine z_aload_n b dX10_readWord_48 rfl rfl ?_
  refine z_aload_n b dX10_readWord_49 rfl rfl ?_
  refine z_lload b dX10_readWord_50 rfl ?_
  refine z_iload b dX10_readWord_52 rfl ?_
  refine z_iload_n b dX10_readWord_54 rfl rfl ?_
  refine z_isub b dX10_readWord_55 rfl ?_
  refine z_calli b (z_runV (q0 := 27) (As := [.long x4, .int (x6 - x2)]) (st := [.ref (a 27)]) b (k_X10_kindOfWord hrw S x4 (x6 - x2) _ h) cf_X10_kindOfWord (kw_27 cy a rw S) rfl wm_X10_75 wi_X10_kindOfWord ws_X10_kindOfWord dX10_readWord_56 rfl (Nat.le_of_ble_eq_true rfl) ⟨by decide, by decide, Nat.le_of_ble_eq_true rfl, Nat.le_of_ble_eq_true rfl⟩) (fun r7 S8 h => ?_)
  refine z_iload_n b dX10_readWord_59 rfl rfl ?_
  refine z_lload b dX10_readWord_60 rfl ?_
  refine z_callv b (z_runV (q0 := 27) (As := [.int r7, .int x2, .long x4]) (st := []) b (k_X10_add hrw S8 r7 x2 x4 _ h) cf_X10_add (kw_27 cy a rw S8) rfl wm_X10_71 wi_X10_add ws_X10_add dX10_readWord_62 rfl (Nat.le_of_ble_eq_true rfl) ⟨by decide, by decide, Nat.le_of_ble_eq_true rfl, Nat.le_of_ble_eq_true rfl⟩) (fun S10 h => ?_)
  refine z_iload b dX10_readWord_65 rfl ?_
  exact z_iret (u := S10) b rfl dX10_readWord_67 h rfl (by decide) (by decide)

def w_X10_readWord (cy : Nat → ClassId) (tE : Nat) (S : KS) (p1 : Int32) (p2 : Int32) (post : Int32 → KS → Prop) : Prop :=
  ∃ n, lpn (w_X10_readWord_F6 cy tE post (w_X10_readWord_B48 cy tE post)) (fun _ _ _ _ _ => False) n S p1 p2 0 p1

set_option maxHeartbeats 200000 in
set_option maxRecDepth 100000 in
theorem k_X10_readWord {l : Launch} {D : va_G} {cy : Nat → ClassId} {T0 tB tE : Nat} {a : Nat → Nat} {rw : Nat → Option Nat} (hrw : ∀ i, i < 6 → rw i = some (a (12 + 2 * i))) (S : KS) (p1 : Int32) (p2 : Int32) (post : Int32 → KS → Prop) (h : w_X10_readWord cy tE S p1 p2 post) : Ct l D cy T0 tB tE yX10_readWord cX10_readWord 7 (some .int) 1 24 0 0 (kw cy a rw S) [.ref (a 27), .ref (a 1), .int p1, .int p2] (QI D (U := KS) post (kw cy a rw)) := by
  refine Ct.ofZ RX10 "readWord" [(0, .ref (a 27)), (1, .ref (a 1)), (2, .int p1), (3, .int p2)] rfl rfl rfl rfl (Nat.le_of_ble_eq_true rfl) ?_
  intro p e R s m args below meth c A b
  unfold w_X10_readWord at h
  refine z_lconst (v := 0) b dX10_readWord_0 (by decide) ?_
  refine z_lstore (lv' := [(4, .long 0), (0, .ref (a 27)), (1, .ref (a 1)), (2, .int p1), (3, .int p2)]) b dX10_readWord_1 (by decide) rfl ?_
  refine z_iload_n b dX10_readWord_3 rfl rfl ?_
  refine z_istore (lv' := [(6, .int p1), (4, .long 0), (0, .ref (a 27)), (1, .ref (a 1)), (2, .int p1), (3, .int p2)]) b dX10_readWord_4 (by decide) rfl ?_
  refine z_lv0 (lv' := [(0, .ref (a 27)), (1, .ref (a 1)), (2, .int p1), (3, .int p2), (4, .long 0), (6, .int p1)]) [2, 3, 4, 5, 1, 0] rfl ?_
  obtain ⟨n, h⟩ := h
  exact zl_X10_readWord_L6 hrw b (fun S x2 x4 x6 h => z_X10_readWord_B48 hrw b _ _ _ _ h) n _ _ _ _ _ h

