def w_Jx4a65c_get_915e3 (cy : Nat → ClassId) (tE : Nat) (S : KS) (p9 : Nat) (p0 : Int32) (post : Option Nat → KS → Prop) : Prop :=
  ∃ (i1 : Nat) (f2 : Int32) (f3 : Nat) (f4 : Int32), S.2.2.2[i1]? = some (p9, .inr (0, [.int f2, .ref f3, .int f4])) ∧ w_J15_checkIndex_7cf53 cy tE S p0 f4 (fun r6 S7 => ∃ (i8 : Nat) (f9 : List Value), S7.2.2.2[i8]? = some (p9, .inr (0, f9)) ∧ w_Jx4a65c_elementData_915e3 cy tE S7 p9 p0 (fun r11 S12 => post r11 S12))

set_option maxHeartbeats 4000000 in
set_option maxRecDepth 100000 in
theorem k_Jx4a65c_get_915e3 {l : Launch} {D : va_G} {cy : Nat → ClassId} {T0 tB tE : Nat} {a : Nat → Nat} {rw : Nat → Option Nat} (hrw : ∀ i, i < 6 → rw i = some (a (12 + 2 * i))) (S : KS) (p9 : Nat) (p0 : Int32) (post : Option Nat → KS → Prop) (h : w_Jx4a65c_get_915e3 cy tE S p9 p0 post) : Ct l D cy T0 tB tE yJx4a65c_get_915e3 cJx4a65c_get_915e3 2 (some (.object "java/lang/Object")) 2 43 0 0 (kw cy a rw S) [.ref p9, .int p0] (QQ D (U := KS) post (kw cy a rw)) := by
  refine Ct.ofZ RJx4a65c "get" [(0, .ref p9), (1, .int p0)] rfl rfl rfl rfl (Nat.le_of_ble_eq_true rfl) ?_
  intro p e R s m args below meth c A b
  unfold w_Jx4a65c_get_915e3 at h
  refine z_iload_n b dJx4a65c_get_915e3_0 rfl rfl ?_
  refine z_aload_n b dJx4a65c_get_915e3_1 rfl rfl ?_
  obtain ⟨i1, f2, f3, f4, g5, h⟩ := h
  refine z_get (q0 := 47 + i1) (k9 := 2) (v := .int f4) b (kw_dyn cy a rw S g5) rfl in_Jx4a65c (by decide) wf_Jx4a65c_48 rfl dJx4a65c_get_915e3_2 ?_
  refine z_calli b (z_runS (As := [.int p0, .int f4]) (st := []) b (k_J15_checkIndex_7cf53 hrw S p0 f4 _ h) cf_J15_checkIndex_7cf53 wm_Jx4a65c_118 ws_J15_checkIndex_7cf53 dJx4a65c_get_915e3_5 rfl (Nat.le_of_ble_eq_true rfl) ⟨by decide, by decide, Nat.le_of_ble_eq_true rfl, Nat.le_of_ble_eq_true rfl⟩) (fun r6 S7 h => ?_)
  refine z_pop b dJx4a65c_get_915e3_8 rfl ?_
  refine z_aload_n b dJx4a65c_get_915e3_9 rfl rfl ?_
  refine z_iload_n b dJx4a65c_get_915e3_10 rfl rfl ?_
  obtain ⟨i8, f9, g10, h⟩ := h
  refine z_callq b (z_runV (q0 := 47 + i8) (As := [.int p0]) (st := []) b (k_Jx4a65c_elementData_915e3 hrw S7 p9 p0 _ h) cf_Jx4a65c_elementData_915e3 (kw_dyn cy a rw S7 g10) rfl wm_Jx4a65c_123 wi_Jx4a65c_elementData_915e3 ws_Jx4a65c_elementData_915e3 dJx4a65c_get_915e3_11 rfl (Nat.le_of_ble_eq_true rfl) ⟨by decide, by decide, Nat.le_of_ble_eq_true rfl, Nat.le_of_ble_eq_true rfl⟩) (fun r11 S12 h => ?_)
  exact z_aret (v := r11) (u := S12) b rfl (Or.inl ⟨_, rfl⟩) dJx4a65c_get_915e3_14 h rfl (by decide) (by decide)

def w_X9_thingsOf_B25 (cy : Nat → ClassId) (tE : Nat) (post : Int32 → KS → Prop) (k4 : KS → Nat → Int32 → Int32 → Int32 → Prop) (k31 : KS → Int32 → Prop) (S : KS) (x0 : Nat) (x1 : Int32) (x2 : Int32) (x3 : Int32) : Prop :=
  k4 S x0 x1 x2 (x3 + 1)

set_option maxHeartbeats 4000000 in
set_option maxRecDepth 100000 in
theorem z_X9_thingsOf_B25 {p : Program} {l : Launch} {e : Env} {R : Room} {s : State} {m : MethodId} {args : Array Value} {below : List Frame} {meth : Method} {c : Code} {D : va_G} {cy : Nat → ClassId} {T0 tB tE : Nat} {A : Nat → Prop} {a : Nat → Nat} {rw : Nat → Option Nat} (hrw : ∀ i, i < 6 → rw i = some (a (12 + 2 * i))) {post : Int32 → KS → Prop} {k4 : KS → Nat → Int32 → Int32 → Int32 → Prop} {k31 : KS → Int32 → Prop} (b : Bz p R s m args meth c D cy T0 tB tE A 4 cX9_thingsOf RX9 (some .int) "thingsOf" 0 0 0 0) (hk4 : ∀ (S : KS) (x0 : Nat) (x1 : Int32) (x2 : Int32) (x3 : Int32), k4 S x0 x1 x2 x3 → Z p l e R s m args below meth c D A 4 (MQ below (QI D (U := KS) post (kw cy a rw) A) args s 0 0 A) 0 0 (kw cy a rw S) [(0, .ref (a (2 + 2 * x0))), (1, .int x1), (2, .int x2), (3, .int x3)] 4 []) (hk31 : ∀ (S : KS) (x2 : Int32), k31 S x2 → Z p l e R s m args below meth c D A 4 (MQ below (QI D (U := KS) post (kw cy a rw) A) args s 0 0 A) 0 0 (kw cy a rw S) [(2, .int x2)] 31 []) (S : KS) (x0 : Nat) (x1 : Int32) (x2 : Int32) (x3 : Int32) (h : w_X9_thingsOf_B25 cy tE post k4 k31 S x0 x1 x2 x3) : Z p l e R s m args below meth c D A 4 (MQ below (QI D (U := KS) post (kw cy a rw) A) args s 0 0 A) 0 0 (kw cy a rw S) [(0, .ref (a (2 + 2 * x0))), (1, .int x1), (2, .int x2), (3, .int x3)] 25 [] := by
  unfold w_X9_thingsOf_B25 at h
  refine z_iinc (k9 := 3) (v := (x3 + 1)) (lv' := [(3, .int (x3 + 1)), (0, .ref (a (2 + 2 * x0))), (1, .int x1), (2, .int x2)]) b dX9_thingsOf_25 rfl rfl (by decide) rfl ?_
  refine z_goto (tgt := 4) b dX9_thingsOf_28 (by decide) ?_
  refine z_lv0 (lv' := [(0, .ref (a (2 + 2 * x0))), (1, .int x1), (2, .int x2), (3, .int (x3 + 1))]) [1, 2, 3, 0] rfl ?_
  exact hk4 _ _ _ _ _ h

def w_X9_thingsOf_F4 (cy : Nat → ClassId) (tE : Nat) (post : Int32 → KS → Prop) (k31 : KS → Int32 → Prop) (k4 : KS → Nat → Int32 → Int32 → Int32 → Prop) (S : KS) (x0 : Nat) (x1 : Int32) (x2 : Int32) (x3 : Int32) : Prop :=
  ((3 ≤ x3.toInt → k31 S x2) ∧ (x3.toInt < 3 → (x0 < 5) ∧ (x0 < 5) ∧ (0 ≤ ((40 : Int32) + x3).toInt ∧ ((40 : Int32) + x3).toInt < 51) ∧ ((((ar S.1 (1 + x0)) ((40 : Int32) + x3).toNatClampNeg).toInt ≠ x1.toInt → w_X9_thingsOf_B25 cy tE post k4 k31 S x0 x1 x2 x3) ∧ (((ar S.1 (1 + x0)) ((40 : Int32) + x3).toNatClampNeg).toInt = x1.toInt → w_X9_thingsOf_B25 cy tE post k4 k31 S x0 x1 (x2 + 1) x3))))

set_option maxHeartbeats 4000000 in
set_option maxRecDepth 100000 in
theorem z_X9_thingsOf_F4 {p : Program} {l : Launch} {e : Env} {R : Room} {s : State} {m : MethodId} {args : Array Value} {below : List Frame} {meth : Method} {c : Code} {D : va_G} {cy : Nat → ClassId} {T0 tB tE : Nat} {A : Nat → Prop} {a : Nat → Nat} {rw : Nat → Option Nat} (hrw : ∀ i, i < 6 → rw i = some (a (12 + 2 * i))) {post : Int32 → KS → Prop} {k31 : KS → Int32 → Prop} {k4 : KS → Nat → Int32 → Int32 → Int32 → Prop} (b : Bz p R s m args meth c D cy T0 tB tE A 4 cX9_thingsOf RX9 (some .int) "thingsOf" 0 0 0 0) (hk31 : ∀ (S : KS) (x2 : Int32), k31 S x2 → Z p l e R s m args below meth c D A 4 (MQ below (QI D (U := KS) post (kw cy a rw) A) args s 0 0 A) 0 0 (kw cy a rw S) [(2, .int x2)] 31 []) (hk4 : ∀ (S : KS) (x0 : Nat) (x1 : Int32) (x2 : Int32) (x3 : Int32), k4 S x0 x1 x2 x3 → Z p l e R s m args below meth c D A 4 (MQ below (QI D (U := KS) post (kw cy a rw) A) args s 0 0 A) 0 0 (kw cy a rw S) [(0, .ref (a (2 + 2 * x0))), (1, .int x1), (2, .int x2), (3, .int x3)] 4 []) (S : KS) (x0 : Nat) (x1 : Int32) (x2 : Int32) (x3 : Int32) (h : w_X9_thingsOf_F4 cy tE post k31 k4 S x0 x1 x2 x3) : Z p l e R s m args below meth c D A 4 (MQ below (QI D (U := KS) post (kw cy a rw) A) args s 0 0 A) 0 0 (kw cy a rw S) [(0, .ref (a (2 + 2 * x0))), (1, .int x1), (2, .int x2), (3, .int x3)] 4 [] := by
  unfold w_X9_thingsOf_F4 at h
  refine z_iload_n b dX9_thingsOf_4 rfl rfl ?_
  refine z_iconst (v := 3) b dX9_thingsOf_5 (by decide) ?_
  refine y_icmp_ge (tgt := 31) (xl := x3.toInt) (yl := 3) b rfl (by decide) dX9_thingsOf_6 (by decide) (fun c1 => ?_) (fun c1 => ?_)
  · replace h := h.1 c1
    refine z_lv0 (lv' := [(2, .int x2)]) [2] rfl ?_
    exact hk31 _ _ h
  · replace h := h.2 c1
    refine z_aload_n b dX9_thingsOf_9 rfl rfl ?_
    obtain ⟨g1, h⟩ := h
    refine z_get (q0 := 2 + 2 * x0) (k9 := 0) (v := .ref (a (3 + 2 * x0))) b (kw_so cy a rw S g1) rfl in_X9 (by decide) wf_X9_11 rfl dX9_thingsOf_10 ?_
    refine z_bipush (v := 40) b dX9_thingsOf_13 (by decide) ?_
    refine z_iload_n b dX9_thingsOf_15 rfl rfl ?_
    refine z_iadd b dX9_thingsOf_16 rfl ?_
    obtain ⟨g2, h⟩ := h
    obtain ⟨g3, h⟩ := h
    refine y_iald (q0 := 3 + 2 * x0) (j := ((40 : Int32) + x3).toNatClampNeg) (v := ((ar S.1 (1 + x0)) ((40 : Int32) + x3).toNatClampNeg)) b (kw_sr cy a rw S g2) (zx_r g3.1 g3.2) rfl dX9_thingsOf_17 ?_
    refine z_iload_n b dX9_thingsOf_18 rfl rfl ?_
    refine y_icmp_ne (tgt := 25) (xl := ((ar S.1 (1 + x0)) ((40 : Int32) + x3).toNatClampNeg).toInt) (yl := x1.toInt) b rfl rfl dX9_thingsOf_19 (by decide) (fun c1 => ?_) (fun c1 => ?_)
    · replace h := h.1 c1
      exact z_X9_thingsOf_B25 hrw b hk4 hk31 _ _ _ _ _ h
    · replace h := h.2 c1
      refine z_iinc (k9 := 2) (v := (x2 + 1)) (lv' := [(2, .int (x2 + 1)), (0, .ref (a (2 + 2 * x0))), (1, .int x1), (3, .int x3)]) b dX9_thingsOf_22 rfl rfl (by decide) rfl ?_
      refine z_lv0 (lv' := [(0, .ref (a (2 + 2 * x0))), (1, .int x1), (2, .int (x2 + 1)), (3, .int x3)]) [1, 2, 0, 3] rfl ?_
      exact z_X9_thingsOf_B25 hrw b hk4 hk31 _ _ _ _ _ h

set_option maxHeartbeats 4000000 in
set_option maxRecDepth 100000 in
theorem zl_X9_thingsOf_L4 {p : Program} {l : Launch} {e : Env} {R : Room} {s : State} {m : MethodId} {args : Array Value} {below : List Frame} {meth : Method} {c : Code} {D : va_G} {cy : Nat → ClassId} {T0 tB tE : Nat} {A : Nat → Prop} {a : Nat → Nat} {rw : Nat → Option Nat} (hrw : ∀ i, i < 6 → rw i = some (a (12 + 2 * i))) {post : Int32 → KS → Prop} {k31 : KS → Int32 → Prop} (b : Bz p R s m args meth c D cy T0 tB tE A 4 cX9_thingsOf RX9 (some .int) "thingsOf" 0 0 0 0) (hk31 : ∀ (S : KS) (x2 : Int32), k31 S x2 → Z p l e R s m args below meth c D A 4 (MQ below (QI D (U := KS) post (kw cy a rw) A) args s 0 0 A) 0 0 (kw cy a rw S) [(2, .int x2)] 31 []) : ∀ (n : Nat) (S : KS) (x0 : Nat) (x1 : Int32) (x2 : Int32) (x3 : Int32), lpn (w_X9_thingsOf_F4 cy tE post k31) (fun _ _ _ _ _ => False) n S x0 x1 x2 x3 → Z p l e R s m args below meth c D A 4 (MQ below (QI D (U := KS) post (kw cy a rw) A) args s 0 0 A) 0 0 (kw cy a rw S) [(0, .ref (a (2 + 2 * x0))), (1, .int x1), (2, .int x2), (3, .int x3)] 4 [] := by
  intro n
  induction n with
  | zero => intro _ _ _ _ _ h; exact h.elim
  | succ n ih => intro S x0 x1 x2 x3 h; exact z_X9_thingsOf_F4 hrw b hk31 ih S x0 x1 x2 x3 h

def w_X9_thingsOf_B31 (cy : Nat → ClassId) (tE : Nat) (post : Int32 → KS → Prop) (S : KS) (x2 : Int32) : Prop :=
  post x2 S

set_option maxHeartbeats 4000000 in
set_option maxRecDepth 100000 in
theorem z_X9_thingsOf_B31 {p : Program} {l : Launch} {e : Env} {R : Room} {s : State} {m : MethodId} {args : Array Value} {below : List Frame} {meth : Method} {c : Code} {D : va_G} {cy : Nat → ClassId} {T0 tB tE : Nat} {A : Nat → Prop} {a : Nat → Nat} {rw : Nat → Option Nat} (hrw : ∀ i, i < 6 → rw i = some (a (12 + 2 * i))) {post : Int32 → KS → Prop} (b : Bz p R s m args meth c D cy T0 tB tE A 4 cX9_thingsOf RX9 (some .int) "thingsOf" 0 0 0 0) (S : KS) (x2 : Int32) (h : w_X9_thingsOf_B31 cy tE post S x2) : Z p l e R s m args below meth c D A 4 (MQ below (QI D (U := KS) post (kw cy a rw) A) args s 0 0 A) 0 0 (kw cy a rw S) [(2, .int x2)] 31 [] := by
  unfold w_X9_thingsOf_B31 at h
  refine z_iload_n b dX9_thingsOf_31 rfl rfl ?_
  exact z_iret (u := S) b rfl dX9_thingsOf_32 h rfl (by decide) (by decide)

def w_X9_thingsOf (cy : Nat → ClassId) (tE : Nat) (S : KS) (p9 : Nat) (p0 : Int32) (post : Int32 → KS → Prop) : Prop :=
  ∃ n, lpn (w_X9_thingsOf_F4 cy tE post (w_X9_thingsOf_B31 cy tE post)) (fun _ _ _ _ _ => False) n S p9 p0 0 0

set_option maxHeartbeats 4000000 in
set_option maxRecDepth 100000 in
theorem k_X9_thingsOf {l : Launch} {D : va_G} {cy : Nat → ClassId} {T0 tB tE : Nat} {a : Nat → Nat} {rw : Nat → Option Nat} (hrw : ∀ i, i < 6 → rw i = some (a (12 + 2 * i))) (S : KS) (p9 : Nat) (p0 : Int32) (post : Int32 → KS → Prop) (h : w_X9_thingsOf cy tE S p9 p0 post) : Ct l D cy T0 tB tE yX9_thingsOf cX9_thingsOf 4 (some .int) 0 0 0 0 (kw cy a rw S) [.ref (a (2 + 2 * p9)), .int p0] (QI D (U := KS) post (kw cy a rw)) := by
  refine Ct.ofZ RX9 "thingsOf" [(0, .ref (a (2 + 2 * p9))), (1, .int p0)] rfl rfl rfl rfl (Nat.le_of_ble_eq_true rfl) ?_
  intro p e R s m args below meth c A b
  unfold w_X9_thingsOf at h
  refine z_iconst (v := 0) b dX9_thingsOf_0 (by decide) ?_
  refine z_istore_n (lv' := [(2, .int 0), (0, .ref (a (2 + 2 * p9))), (1, .int p0)]) b dX9_thingsOf_1 rfl (by decide) rfl ?_
  refine z_iconst (v := 0) b dX9_thingsOf_2 (by decide) ?_
  refine z_istore_n (lv' := [(3, .int 0), (2, .int 0), (0, .ref (a (2 + 2 * p9))), (1, .int p0)]) b dX9_thingsOf_3 rfl (by decide) rfl ?_
  refine z_lv0 (lv' := [(0, .ref (a (2 + 2 * p9))), (1, .int p0), (2, .int 0), (3, .int 0)]) [2, 3, 1, 0] rfl ?_
  obtain ⟨n, h⟩ := h
  exact zl_X9_thingsOf_L4 hrw b (fun S x2 h => z_X9_thingsOf_B31 hrw b _ _ h) n _ _ _ _ _ h

def w_X6_operand_B212 (cy : Nat → ClassId) (tE : Nat) (post : Int32 → KS → Prop) (S : KS) (y0 : Int32) : Prop :=
  post y0 S

set_option maxHeartbeats 4000000 in
set_option maxRecDepth 100000 in
theorem z_X6_operand_B212 {p : Program} {l : Launch} {e : Env} {R : Room} {s : State} {m : MethodId} {args : Array Value} {below : List Frame} {meth : Method} {c : Code} {D : va_G} {cy : Nat → ClassId} {T0 tB tE : Nat} {A : Nat → Prop} {a : Nat → Nat} {rw : Nat → Option Nat} (hrw : ∀ i, i < 6 → rw i = some (a (12 + 2 * i))) {post : Int32 → KS → Prop} (b : Bz p R s m args meth c D cy T0 tB tE A 5 cX6_operand RX6 (some .int) "operand" 1 23 0 0) (S : KS) (y0 : Int32) (h : w_X6_operand_B212 cy tE post S y0) : Z p l e R s m args below meth c D A 5 (MQ below (QI D (U := KS) post (kw cy a rw) A) args s 0 0 A) 0 0 (kw cy a rw S) [] 212 [.int y0] := by
  unfold w_X6_operand_B212 at h
  exact z_iret (u := S) b rfl dX6_operand_212 h rfl (by decide) (by decide)

def w_X6_operand_B266 (cy : Nat → ClassId) (tE : Nat) (post : Int32 → KS → Prop) (S : KS) (y0 : Int32) : Prop :=
  post y0 S

set_option maxHeartbeats 4000000 in
set_option maxRecDepth 100000 in
theorem z_X6_operand_B266 {p : Program} {l : Launch} {e : Env} {R : Room} {s : State} {m : MethodId} {args : Array Value} {below : List Frame} {meth : Method} {c : Code} {D : va_G} {cy : Nat → ClassId} {T0 tB tE : Nat} {A : Nat → Prop} {a : Nat → Nat} {rw : Nat → Option Nat} (hrw : ∀ i, i < 6 → rw i = some (a (12 + 2 * i))) {post : Int32 → KS → Prop} (b : Bz p R s m args meth c D cy T0 tB tE A 5 cX6_operand RX6 (some .int) "operand" 1 23 0 0) (S : KS) (y0 : Int32) (h : w_X6_operand_B266 cy tE post S y0) : Z p l e R s m args below meth c D A 5 (MQ below (QI D (U := KS) post (kw cy a rw) A) args s 0 0 A) 0 0 (kw cy a rw S) [] 266 [.int y0] := by
  unfold w_X6_operand_B266 at h
  exact z_iret (u := S) b rfl dX6_operand_266 h rfl (by decide) (by decide)

def w_X6_operand_B240 (cy : Nat → ClassId) (tE : Nat) (post : Int32 → KS → Prop) (S : KS) (x3 : Int32) (x4 : Int32) : Prop :=
  ((x4.toInt ≠ 3 → ((S.2.1 3) < 5) ∧ w_X9_get cy tE S (S.2.1 3) (((30 : Int32) + ((3 : Int32) * x3)) + x4) (fun r8 S9 => w_X6_operand_B266 cy tE post S9 r8)) ∧ (x4.toInt = 3 → w_X6_operand_B266 cy tE post S 0))

set_option maxHeartbeats 4000000 in
set_option maxRecDepth 100000 in
theorem z_X6_operand_B240 {p : Program} {l : Launch} {e : Env} {R : Room} {s : State} {m : MethodId} {args : Array Value} {below : List Frame} {meth : Method} {c : Code} {D : va_G} {cy : Nat → ClassId} {T0 tB tE : Nat} {A : Nat → Prop} {a : Nat → Nat} {rw : Nat → Option Nat} (hrw : ∀ i, i < 6 → rw i = some (a (12 + 2 * i))) {post : Int32 → KS → Prop} (b : Bz p R s m args meth c D cy T0 tB tE A 5 cX6_operand RX6 (some .int) "operand" 1 23 0 0) (S : KS) (x3 : Int32) (x4 : Int32) (h : w_X6_operand_B240 cy tE post S x3 x4) : Z p l e R s m args below meth c D A 5 (MQ below (QI D (U := KS) post (kw cy a rw) A) args s 0 0 A) 0 0 (kw cy a rw S) [(0, .ref (a 36)), (3, .int x3), (4, .int x4)] 240 [] := by
  unfold w_X6_operand_B240 at h
  refine z_iload b dX6_operand_240 rfl ?_
  refine z_iconst (v := 3) b dX6_operand_242 (by decide) ?_
  refine y_icmp_ne (tgt := 250) (xl := x4.toInt) (yl := 3) b rfl (by decide) dX6_operand_243 (by decide) (fun c1 => ?_) (fun c1 => ?_)
  · replace h := h.1 c1
    refine z_aload_n b dX6_operand_250 rfl rfl ?_
    refine z_get (q0 := 36) (k9 := 1) (v := .ref (a (2 + 2 * (S.2.1 3)))) b (kw_36 cy a rw S) rfl in_X6 (by decide) wf_X6_18 rfl dX6_operand_251 ?_
    refine z_bipush (v := 30) b dX6_operand_254 (by decide) ?_
    refine z_iconst (v := 3) b dX6_operand_256 (by decide) ?_
    refine z_iload_n b dX6_operand_257 rfl rfl ?_
    refine z_imul b dX6_operand_258 rfl ?_
    refine z_iadd b dX6_operand_259 rfl ?_
    refine z_iload b dX6_operand_260 rfl ?_
    refine z_iadd b dX6_operand_262 rfl ?_
    obtain ⟨g7, h⟩ := h
    refine z_calli b (z_runV (q0 := 2 + 2 * (S.2.1 3)) (As := [.int (((30 : Int32) + ((3 : Int32) * x3)) + x4)]) (st := []) b (k_X9_get hrw S (S.2.1 3) (((30 : Int32) + ((3 : Int32) * x3)) + x4) _ h) cf_X9_get (kw_so cy a rw S g7) rfl wm_X6_61 wi_X9_get ws_X9_get dX6_operand_263 rfl (Nat.le_of_ble_eq_true rfl) ⟨by decide, by decide, Nat.le_of_ble_eq_true rfl, Nat.le_of_ble_eq_true rfl⟩) (fun r8 S9 h => ?_)
    refine z_lv0 (lv' := []) [] rfl ?_
    exact z_X6_operand_B266 hrw b _ _ h
  · replace h := h.2 c1
    refine z_iconst (v := 0) b dX6_operand_246 (by decide) ?_
    refine z_goto (tgt := 266) b dX6_operand_247 (by decide) ?_
    refine z_lv0 (lv' := []) [] rfl ?_
    exact z_X6_operand_B266 hrw b _ _ h

def w_X6_operand_B239 (cy : Nat → ClassId) (tE : Nat) (post : Int32 → KS → Prop) (S : KS) (y0 : Int32) : Prop :=
  post y0 S

set_option maxHeartbeats 4000000 in
set_option maxRecDepth 100000 in
theorem z_X6_operand_B239 {p : Program} {l : Launch} {e : Env} {R : Room} {s : State} {m : MethodId} {args : Array Value} {below : List Frame} {meth : Method} {c : Code} {D : va_G} {cy : Nat → ClassId} {T0 tB tE : Nat} {A : Nat → Prop} {a : Nat → Nat} {rw : Nat → Option Nat} (hrw : ∀ i, i < 6 → rw i = some (a (12 + 2 * i))) {post : Int32 → KS → Prop} (b : Bz p R s m args meth c D cy T0 tB tE A 5 cX6_operand RX6 (some .int) "operand" 1 23 0 0) (S : KS) (y0 : Int32) (h : w_X6_operand_B239 cy tE post S y0) : Z p l e R s m args below meth c D A 5 (MQ below (QI D (U := KS) post (kw cy a rw) A) args s 0 0 A) 0 0 (kw cy a rw S) [] 239 [.int y0] := by
  unfold w_X6_operand_B239 at h
  exact z_iret (u := S) b rfl dX6_operand_239 h rfl (by decide) (by decide)

def w_X6_operand_B176 (cy : Nat → ClassId) (tE : Nat) (post : Int32 → KS → Prop) (S : KS) (y0 : Int32) : Prop :=
  post y0 S

set_option maxHeartbeats 4000000 in
set_option maxRecDepth 100000 in
theorem z_X6_operand_B176 {p : Program} {l : Launch} {e : Env} {R : Room} {s : State} {m : MethodId} {args : Array Value} {below : List Frame} {meth : Method} {c : Code} {D : va_G} {cy : Nat → ClassId} {T0 tB tE : Nat} {A : Nat → Prop} {a : Nat → Nat} {rw : Nat → Option Nat} (hrw : ∀ i, i < 6 → rw i = some (a (12 + 2 * i))) {post : Int32 → KS → Prop} (b : Bz p R s m args meth c D cy T0 tB tE A 5 cX6_operand RX6 (some .int) "operand" 1 23 0 0) (S : KS) (y0 : Int32) (h : w_X6_operand_B176 cy tE post S y0) : Z p l e R s m args below meth c D A 5 (MQ below (QI D (U := KS) post (kw cy a rw) A) args s 0 0 A) 0 0 (kw cy a rw S) [] 176 [.int y0] := by
  unfold w_X6_operand_B176 at h
  exact z_iret (u := S) b rfl dX6_operand_176 h rfl (by decide) (by decide)

def w_X6_operand_B175 (cy : Nat → ClassId) (tE : Nat) (post : Int32 → KS → Prop) (S : KS)  : Prop :=
  w_X6_operand_B176 cy tE post S 0

set_option maxHeartbeats 4000000 in
set_option maxRecDepth 100000 in
theorem z_X6_operand_B175 {p : Program} {l : Launch} {e : Env} {R : Room} {s : State} {m : MethodId} {args : Array Value} {below : List Frame} {meth : Method} {c : Code} {D : va_G} {cy : Nat → ClassId} {T0 tB tE : Nat} {A : Nat → Prop} {a : Nat → Nat} {rw : Nat → Option Nat} (hrw : ∀ i, i < 6 → rw i = some (a (12 + 2 * i))) {post : Int32 → KS → Prop} (b : Bz p R s m args meth c D cy T0 tB tE A 5 cX6_operand RX6 (some .int) "operand" 1 23 0 0) (S : KS)  (h : w_X6_operand_B175 cy tE post S ) : Z p l e R s m args below meth c D A 5 (MQ below (QI D (U := KS) post (kw cy a rw) A) args s 0 0 A) 0 0 (kw cy a rw S) [] 175 [] := by
  unfold w_X6_operand_B175 at h
  refine z_iconst (v := 0) b dX6_operand_175 (by decide) ?_
  exact z_X6_operand_B176 hrw b _ _ h

def w_X6_operand_B54 (cy : Nat → ClassId) (tE : Nat) (post : Int32 → KS → Prop) (S : KS) (x1 : Int32) (x3 : Int32) (y0 : Int32) : Prop :=
  ((x3.toInt ≠ 3 → ((x1.toInt = 7 → ((S.2.1 3) < 5) ∧ w_X9_get cy tE S (S.2.1 3) x3 (fun r2 S3 => post r2 S3)) ∧ (x1.toInt = 8 → ((y0.toInt ≠ 3 → ((S.2.1 3) < 5) ∧ w_X9_get cy tE S (S.2.1 3) (((10 : Int32) + ((3 : Int32) * x3)) + y0) (fun r5 S6 => w_X6_operand_B212 cy tE post S6 r5)) ∧ (y0.toInt = 3 → w_X6_operand_B212 cy tE post S 0))) ∧ (x1.toInt = 9 → w_X6_operand_B240 cy tE post S x3 y0) ∧ (x1.toInt = 10 → w_X6_operand_B240 cy tE post S x3 y0) ∧ (x1.toInt = 11 → ((y0.toInt ≠ 3 → ((S.2.1 3) < 5) ∧ w_X9_get cy tE S (S.2.1 3) (((20 : Int32) + ((3 : Int32) * x3)) + y0) (fun r11 S12 => w_X6_operand_B239 cy tE post S12 r11)) ∧ (y0.toInt = 3 → w_X6_operand_B239 cy tE post S 0))) ∧ (x1.toInt = 12 → w_X6_operand_B240 cy tE post S x3 y0) ∧ (x1.toInt = 13 → w_X6_operand_B240 cy tE post S x3 y0) ∧ (x1.toInt = 14 → w_X6_operand_B240 cy tE post S x3 y0) ∧ (x1.toInt = 15 → w_X6_operand_B240 cy tE post S x3 y0) ∧ (x1.toInt = 16 → w_X6_operand_B240 cy tE post S x3 y0) ∧ (x1.toInt = 17 → w_X6_operand_B240 cy tE post S x3 y0) ∧ (x1.toInt = 18 → w_X6_operand_B240 cy tE post S x3 y0) ∧ (x1.toInt = 19 → (((fi S.1 25).toInt = 3 → w_X6_operand_B175 cy tE post S) ∧ ((fi S.1 25).toInt ≠ 3 → ((S.2.1 3) < 5) ∧ w_X9_get cy tE S (S.2.1 3) ((40 : Int32) + (fi S.1 25)) (fun r14 S15 => ((r14.toInt ≠ x3.toInt → w_X6_operand_B175 cy tE post S15) ∧ (r14.toInt = x3.toInt → w_X6_operand_B176 cy tE post S15 1)))))) ∧ (x1.toInt = 20 → ((S.2.1 3) < 5) ∧ w_X9_thingsOf cy tE S (S.2.1 3) x3 (fun r17 S18 => post r17 S18)) ∧ (x1.toInt ≠ 7 ∧ x1.toInt ≠ 8 ∧ x1.toInt ≠ 9 ∧ x1.toInt ≠ 10 ∧ x1.toInt ≠ 11 ∧ x1.toInt ≠ 12 ∧ x1.toInt ≠ 13 ∧ x1.toInt ≠ 14 ∧ x1.toInt ≠ 15 ∧ x1.toInt ≠ 16 ∧ x1.toInt ≠ 17 ∧ x1.toInt ≠ 18 ∧ x1.toInt ≠ 19 ∧ x1.toInt ≠ 20 → w_X6_operand_B240 cy tE post S x3 y0))) ∧ (x3.toInt = 3 → post 0 S))

set_option maxHeartbeats 4000000 in
set_option maxRecDepth 100000 in
theorem z_X6_operand_B54 {p : Program} {l : Launch} {e : Env} {R : Room} {s : State} {m : MethodId} {args : Array Value} {below : List Frame} {meth : Method} {c : Code} {D : va_G} {cy : Nat → ClassId} {T0 tB tE : Nat} {A : Nat → Prop} {a : Nat → Nat} {rw : Nat → Option Nat} (hrw : ∀ i, i < 6 → rw i = some (a (12 + 2 * i))) {post : Int32 → KS → Prop} (b : Bz p R s m args meth c D cy T0 tB tE A 5 cX6_operand RX6 (some .int) "operand" 1 23 0 0) (S : KS) (x1 : Int32) (x3 : Int32) (y0 : Int32) (h : w_X6_operand_B54 cy tE post S x1 x3 y0) : Z p l e R s m args below meth c D A 5 (MQ below (QI D (U := KS) post (kw cy a rw) A) args s 0 0 A) 0 0 (kw cy a rw S) [(0, .ref (a 36)), (1, .int x1), (3, .int x3)] 54 [.int y0] := by
  unfold w_X6_operand_B54 at h
  refine z_istore (lv' := [(4, .int y0), (0, .ref (a 36)), (1, .int x1), (3, .int x3)]) b dX6_operand_54 (by decide) rfl ?_
  refine z_iload_n b dX6_operand_56 rfl rfl ?_
  refine z_iconst (v := 3) b dX6_operand_57 (by decide) ?_
  refine y_icmp_ne (tgt := 63) (xl := x3.toInt) (yl := 3) b rfl (by decide) dX6_operand_58 (by decide) (fun c1 => ?_) (fun c1 => ?_)
  · replace h := h.1 c1
    refine z_iload_n b dX6_operand_63 rfl rfl ?_
    by_cases e1 : x1.toInt = 7
    · replace h := h.1 e1
      refine z_eqi (y := 7) (y_eqc e1 (by decide)) ?_
      refine z_tableIn (tgt := 136) (off := 72) b dX6_operand_64 (by decide) (by decide) (by decide) (by decide) ?_
      refine z_aload_n b dX6_operand_136 rfl rfl ?_
      refine z_get (q0 := 36) (k9 := 1) (v := .ref (a (2 + 2 * (S.2.1 3)))) b (kw_36 cy a rw S) rfl in_X6 (by decide) wf_X6_18 rfl dX6_operand_137 ?_
      refine z_iload_n b dX6_operand_140 rfl rfl ?_
      obtain ⟨g1, h⟩ := h
      refine z_calli b (z_runV (q0 := 2 + 2 * (S.2.1 3)) (As := [.int x3]) (st := []) b (k_X9_get hrw S (S.2.1 3) x3 _ h) cf_X9_get (kw_so cy a rw S g1) rfl wm_X6_61 wi_X9_get ws_X9_get dX6_operand_141 rfl (Nat.le_of_ble_eq_true rfl) ⟨by decide, by decide, Nat.le_of_ble_eq_true rfl, Nat.le_of_ble_eq_true rfl⟩) (fun r2 S3 h => ?_)
      exact z_iret (u := S3) b rfl dX6_operand_144 h rfl (by decide) (by decide)
    replace h := h.2
    have o0 := e1
    by_cases e1 : x1.toInt = 8
    · replace h := h.1 e1
      refine z_eqi (y := 8) (y_eqc e1 (by decide)) ?_
      refine z_tableIn (tgt := 186) (off := 122) b dX6_operand_64 (by decide) (by decide) (by decide) (by decide) ?_
      refine z_iload b dX6_operand_186 rfl ?_
      refine z_iconst (v := 3) b dX6_operand_188 (by decide) ?_
      refine y_icmp_ne (tgt := 196) (xl := y0.toInt) (yl := 3) b rfl (by decide) dX6_operand_189 (by decide) (fun c1 => ?_) (fun c1 => ?_)
      · replace h := h.1 c1
        refine z_aload_n b dX6_operand_196 rfl rfl ?_
        refine z_get (q0 := 36) (k9 := 1) (v := .ref (a (2 + 2 * (S.2.1 3)))) b (kw_36 cy a rw S) rfl in_X6 (by decide) wf_X6_18 rfl dX6_operand_197 ?_
        refine z_bipush (v := 10) b dX6_operand_200 (by decide) ?_
        refine z_iconst (v := 3) b dX6_operand_202 (by decide) ?_
        refine z_iload_n b dX6_operand_203 rfl rfl ?_
        refine z_imul b dX6_operand_204 rfl ?_
        refine z_iadd b dX6_operand_205 rfl ?_
        refine z_iload b dX6_operand_206 rfl ?_
        refine z_iadd b dX6_operand_208 rfl ?_
        obtain ⟨g4, h⟩ := h
        refine z_calli b (z_runV (q0 := 2 + 2 * (S.2.1 3)) (As := [.int (((10 : Int32) + ((3 : Int32) * x3)) + y0)]) (st := []) b (k_X9_get hrw S (S.2.1 3) (((10 : Int32) + ((3 : Int32) * x3)) + y0) _ h) cf_X9_get (kw_so cy a rw S g4) rfl wm_X6_61 wi_X9_get ws_X9_get dX6_operand_209 rfl (Nat.le_of_ble_eq_true rfl) ⟨by decide, by decide, Nat.le_of_ble_eq_true rfl, Nat.le_of_ble_eq_true rfl⟩) (fun r5 S6 h => ?_)
        refine z_lv0 (lv' := []) [] rfl ?_
        exact z_X6_operand_B212 hrw b _ _ h
      · replace h := h.2 c1
        refine z_iconst (v := 0) b dX6_operand_192 (by decide) ?_
        refine z_goto (tgt := 212) b dX6_operand_193 (by decide) ?_
        refine z_lv0 (lv' := []) [] rfl ?_
        exact z_X6_operand_B212 hrw b _ _ h
    replace h := h.2
    have o1 := e1
    by_cases e1 : x1.toInt = 9
    · replace h := h.1 e1
      refine z_eqi (y := 9) (y_eqc e1 (by decide)) ?_
      refine z_tableIn (tgt := 240) (off := 176) b dX6_operand_64 (by decide) (by decide) (by decide) (by decide) ?_
      refine z_lv0 (lv' := [(0, .ref (a 36)), (3, .int x3), (4, .int y0)]) [1, 3, 0] rfl ?_
      exact z_X6_operand_B240 hrw b _ _ _ h
    replace h := h.2
    have o2 := e1
    by_cases e1 : x1.toInt = 10
    · replace h := h.1 e1
      refine z_eqi (y := 10) (y_eqc e1 (by decide)) ?_
      refine z_tableIn (tgt := 240) (off := 176) b dX6_operand_64 (by decide) (by decide) (by decide) (by decide) ?_
      refine z_lv0 (lv' := [(0, .ref (a 36)), (3, .int x3), (4, .int y0)]) [1, 3, 0] rfl ?_
      exact z_X6_operand_B240 hrw b _ _ _ h
    replace h := h.2
    have o3 := e1
    by_cases e1 : x1.toInt = 11
    · replace h := h.1 e1
      refine z_eqi (y := 11) (y_eqc e1 (by decide)) ?_
      refine z_tableIn (tgt := 213) (off := 149) b dX6_operand_64 (by decide) (by decide) (by decide) (by decide) ?_
      refine z_iload b dX6_operand_213 rfl ?_
      refine z_iconst (v := 3) b dX6_operand_215 (by decide) ?_
      refine y_icmp_ne (tgt := 223) (xl := y0.toInt) (yl := 3) b rfl (by decide) dX6_operand_216 (by decide) (fun c1 => ?_) (fun c1 => ?_)
      · replace h := h.1 c1
        refine z_aload_n b dX6_operand_223 rfl rfl ?_
        refine z_get (q0 := 36) (k9 := 1) (v := .ref (a (2 + 2 * (S.2.1 3)))) b (kw_36 cy a rw S) rfl in_X6 (by decide) wf_X6_18 rfl dX6_operand_224 ?_
        refine z_bipush (v := 20) b dX6_operand_227 (by decide) ?_
        refine z_iconst (v := 3) b dX6_operand_229 (by decide) ?_
        refine z_iload_n b dX6_operand_230 rfl rfl ?_
        refine z_imul b dX6_operand_231 rfl ?_
        refine z_iadd b dX6_operand_232 rfl ?_
        refine z_iload b dX6_operand_233 rfl ?_
        refine z_iadd b dX6_operand_235 rfl ?_
        obtain ⟨g10, h⟩ := h
        refine z_calli b (z_runV (q0 := 2 + 2 * (S.2.1 3)) (As := [.int (((20 : Int32) + ((3 : Int32) * x3)) + y0)]) (st := []) b (k_X9_get hrw S (S.2.1 3) (((20 : Int32) + ((3 : Int32) * x3)) + y0) _ h) cf_X9_get (kw_so cy a rw S g10) rfl wm_X6_61 wi_X9_get ws_X9_get dX6_operand_236 rfl (Nat.le_of_ble_eq_true rfl) ⟨by decide, by decide, Nat.le_of_ble_eq_true rfl, Nat.le_of_ble_eq_true rfl⟩) (fun r11 S12 h => ?_)
        refine z_lv0 (lv' := []) [] rfl ?_
        exact z_X6_operand_B239 hrw b _ _ h
      · replace h := h.2 c1
        refine z_iconst (v := 0) b dX6_operand_219 (by decide) ?_
        refine z_goto (tgt := 239) b dX6_operand_220 (by decide) ?_
        refine z_lv0 (lv' := []) [] rfl ?_
        exact z_X6_operand_B239 hrw b _ _ h
    replace h := h.2
    have o4 := e1
    by_cases e1 : x1.toInt = 12
    · replace h := h.1 e1
      refine z_eqi (y := 12) (y_eqc e1 (by decide)) ?_
      refine z_tableIn (tgt := 240) (off := 176) b dX6_operand_64 (by decide) (by decide) (by decide) (by decide) ?_
      refine z_lv0 (lv' := [(0, .ref (a 36)), (3, .int x3), (4, .int y0)]) [1, 3, 0] rfl ?_
      exact z_X6_operand_B240 hrw b _ _ _ h
    replace h := h.2
    have o5 := e1
    by_cases e1 : x1.toInt = 13
    · replace h := h.1 e1
      refine z_eqi (y := 13) (y_eqc e1 (by decide)) ?_
      refine z_tableIn (tgt := 240) (off := 176) b dX6_operand_64 (by decide) (by decide) (by decide) (by decide) ?_
      refine z_lv0 (lv' := [(0, .ref (a 36)), (3, .int x3), (4, .int y0)]) [1, 3, 0] rfl ?_
      exact z_X6_operand_B240 hrw b _ _ _ h
    replace h := h.2
    have o6 := e1
    by_cases e1 : x1.toInt = 14
    · replace h := h.1 e1
      refine z_eqi (y := 14) (y_eqc e1 (by decide)) ?_
      refine z_tableIn (tgt := 240) (off := 176) b dX6_operand_64 (by decide) (by decide) (by decide) (by decide) ?_
      refine z_lv0 (lv' := [(0, .ref (a 36)), (3, .int x3), (4, .int y0)]) [1, 3, 0] rfl ?_
      exact z_X6_operand_B240 hrw b _ _ _ h
    replace h := h.2
    have o7 := e1
    by_cases e1 : x1.toInt = 15
    · replace h := h.1 e1
      refine z_eqi (y := 15) (y_eqc e1 (by decide)) ?_
      refine z_tableIn (tgt := 240) (off := 176) b dX6_operand_64 (by decide) (by decide) (by decide) (by decide) ?_
      refine z_lv0 (lv' := [(0, .ref (a 36)), (3, .int x3), (4, .int y0)]) [1, 3, 0] rfl ?_
      exact z_X6_operand_B240 hrw b _ _ _ h
    replace h := h.2
    have o8 := e1
    by_cases e1 : x1.toInt = 16
    · replace h := h.1 e1
      refine z_eqi (y := 16) (y_eqc e1 (by decide)) ?_
      refine z_tableIn (tgt := 240) (off := 176) b dX6_operand_64 (by decide) (by decide) (by decide) (by decide) ?_
      refine z_lv0 (lv' := [(0, .ref (a 36)), (3, .int x3), (4, .int y0)]) [1, 3, 0] rfl ?_
      exact z_X6_operand_B240 hrw b _ _ _ h
    replace h := h.2
    have o9 := e1
    by_cases e1 : x1.toInt = 17
    · replace h := h.1 e1
      refine z_eqi (y := 17) (y_eqc e1 (by decide)) ?_
      refine z_tableIn (tgt := 240) (off := 176) b dX6_operand_64 (by decide) (by decide) (by decide) (by decide) ?_
      refine z_lv0 (lv' := [(0, .ref (a 36)), (3, .int x3), (4, .int y0)]) [1, 3, 0] rfl ?_
      exact z_X6_operand_B240 hrw b _ _ _ h
    replace h := h.2
    have o10 := e1
    by_cases e1 : x1.toInt = 18
    · replace h := h.1 e1
      refine z_eqi (y := 18) (y_eqc e1 (by decide)) ?_
      refine z_tableIn (tgt := 240) (off := 176) b dX6_operand_64 (by decide) (by decide) (by decide) (by decide) ?_
      refine z_lv0 (lv' := [(0, .ref (a 36)), (3, .int x3), (4, .int y0)]) [1, 3, 0] rfl ?_
      exact z_X6_operand_B240 hrw b _ _ _ h
    replace h := h.2
    have o11 := e1
    by_cases e1 : x1.toInt = 19
    · replace h := h.1 e1
      refine z_eqi (y := 19) (y_eqc e1 (by decide)) ?_
      refine z_tableIn (tgt := 145) (off := 81) b dX6_operand_64 (by decide) (by decide) (by decide) (by decide) ?_
      refine z_aload_n b dX6_operand_145 rfl rfl ?_
      refine z_get (q0 := 36) (k9 := 4) (v := .int (fi S.1 25)) b (kw_36 cy a rw S) rfl in_X6 (by decide) wf_X6_29 rfl dX6_operand_146 ?_
      refine z_iconst (v := 3) b dX6_operand_149 (by decide) ?_
      refine y_icmp_eq (tgt := 175) (xl := (fi S.1 25).toInt) (yl := 3) b rfl (by decide) dX6_operand_150 (by decide) (fun c1 => ?_) (fun c1 => ?_)
      · replace h := h.1 c1
        refine z_lv0 (lv' := []) [] rfl ?_
        exact z_X6_operand_B175 hrw b _ h
      · replace h := h.2 c1
        refine z_aload_n b dX6_operand_153 rfl rfl ?_
        refine z_get (q0 := 36) (k9 := 1) (v := .ref (a (2 + 2 * (S.2.1 3)))) b (kw_36 cy a rw S) rfl in_X6 (by decide) wf_X6_18 rfl dX6_operand_154 ?_
        refine z_bipush (v := 40) b dX6_operand_157 (by decide) ?_
        refine z_aload_n b dX6_operand_159 rfl rfl ?_
        refine z_get (q0 := 36) (k9 := 4) (v := .int (fi S.1 25)) b (kw_36 cy a rw S) rfl in_X6 (by decide) wf_X6_29 rfl dX6_operand_160 ?_
        refine z_iadd b dX6_operand_163 rfl ?_
        obtain ⟨g13, h⟩ := h
        refine z_calli b (z_runV (q0 := 2 + 2 * (S.2.1 3)) (As := [.int ((40 : Int32) + (fi S.1 25))]) (st := []) b (k_X9_get hrw S (S.2.1 3) ((40 : Int32) + (fi S.1 25)) _ h) cf_X9_get (kw_so cy a rw S g13) rfl wm_X6_61 wi_X9_get ws_X9_get dX6_operand_164 rfl (Nat.le_of_ble_eq_true rfl) ⟨by decide, by decide, Nat.le_of_ble_eq_true rfl, Nat.le_of_ble_eq_true rfl⟩) (fun r14 S15 h => ?_)
        refine z_iload_n b dX6_operand_167 rfl rfl ?_
        refine y_icmp_ne (tgt := 175) (xl := r14.toInt) (yl := x3.toInt) b rfl rfl dX6_operand_168 (by decide) (fun c1 => ?_) (fun c1 => ?_)
        · replace h := h.1 c1
          refine z_lv0 (lv' := []) [] rfl ?_
          exact z_X6_operand_B175 hrw b _ h
        · replace h := h.2 c1
          refine z_iconst (v := 1) b dX6_operand_171 (by decide) ?_
          refine z_goto (tgt := 176) b dX6_operand_172 (by decide) ?_
          refine z_lv0 (lv' := []) [] rfl ?_
          exact z_X6_operand_B176 hrw b _ _ h
    replace h := h.2
    have o12 := e1
    by_cases e1 : x1.toInt = 20
    · replace h := h.1 e1
      refine z_eqi (y := 20) (y_eqc e1 (by decide)) ?_
      refine z_tableIn (tgt := 177) (off := 113) b dX6_operand_64 (by decide) (by decide) (by decide) (by decide) ?_
      refine z_aload_n b dX6_operand_177 rfl rfl ?_
      refine z_get (q0 := 36) (k9 := 1) (v := .ref (a (2 + 2 * (S.2.1 3)))) b (kw_36 cy a rw S) rfl in_X6 (by decide) wf_X6_18 rfl dX6_operand_178 ?_
      refine z_iload_n b dX6_operand_181 rfl rfl ?_
      obtain ⟨g16, h⟩ := h
      refine z_calli b (z_runV (q0 := 2 + 2 * (S.2.1 3)) (As := [.int x3]) (st := []) b (k_X9_thingsOf hrw S (S.2.1 3) x3 _ h) cf_X9_thingsOf (kw_so cy a rw S g16) rfl wm_X6_64 wi_X9_thingsOf ws_X9_thingsOf dX6_operand_182 rfl (Nat.le_of_ble_eq_true rfl) ⟨by decide, by decide, Nat.le_of_ble_eq_true rfl, Nat.le_of_ble_eq_true rfl⟩) (fun r17 S18 h => ?_)
      exact z_iret (u := S18) b rfl dX6_operand_185 h rfl (by decide) (by decide)
    replace h := h.2
    have o13 := e1
    replace h := h ⟨o0, o1, o2, o3, o4, o5, o6, o7, o8, o9, o10, o11, o12, o13⟩
    refine z_tableOut (tgt := 240) b dX6_operand_64 (by omega) (by decide) ?_
    refine z_lv0 (lv' := [(0, .ref (a 36)), (3, .int x3), (4, .int y0)]) [1, 3, 0] rfl ?_
    exact z_X6_operand_B240 hrw b _ _ _ h
  · replace h := h.2 c1
    refine z_iconst (v := 0) b dX6_operand_61 (by decide) ?_
    exact z_iret (u := S) b rfl dX6_operand_62 h rfl (by decide) (by decide)

def w_X6_operand_B38 (cy : Nat → ClassId) (tE : Nat) (post : Int32 → KS → Prop) (S : KS) (x1 : Int32) (x2 : Int32) (y0 : Int32) : Prop :=
  ((x2.toInt ≠ 0 → w_X6_operand_B54 cy tE post S x1 y0 (fi S.1 23)) ∧ (x2.toInt = 0 → w_X6_operand_B54 cy tE post S x1 y0 (fi S.1 24)))

set_option maxHeartbeats 4000000 in
set_option maxRecDepth 100000 in
theorem z_X6_operand_B38 {p : Program} {l : Launch} {e : Env} {R : Room} {s : State} {m : MethodId} {args : Array Value} {below : List Frame} {meth : Method} {c : Code} {D : va_G} {cy : Nat → ClassId} {T0 tB tE : Nat} {A : Nat → Prop} {a : Nat → Nat} {rw : Nat → Option Nat} (hrw : ∀ i, i < 6 → rw i = some (a (12 + 2 * i))) {post : Int32 → KS → Prop} (b : Bz p R s m args meth c D cy T0 tB tE A 5 cX6_operand RX6 (some .int) "operand" 1 23 0 0) (S : KS) (x1 : Int32) (x2 : Int32) (y0 : Int32) (h : w_X6_operand_B38 cy tE post S x1 x2 y0) : Z p l e R s m args below meth c D A 5 (MQ below (QI D (U := KS) post (kw cy a rw) A) args s 0 0 A) 0 0 (kw cy a rw S) [(0, .ref (a 36)), (1, .int x1), (2, .int x2)] 38 [.int y0] := by
  unfold w_X6_operand_B38 at h
  refine z_istore_n (lv' := [(3, .int y0), (0, .ref (a 36)), (1, .int x1), (2, .int x2)]) b dX6_operand_38 rfl (by decide) rfl ?_
  refine z_iload_n b dX6_operand_39 rfl rfl ?_
  refine y_if_ne (tgt := 50) (xl := x2.toInt) b rfl dX6_operand_40 (by decide) (fun c1 => ?_) (fun c1 => ?_)
  · replace h := h.1 c1
    refine z_aload_n b dX6_operand_50 rfl rfl ?_
    refine z_get (q0 := 36) (k9 := 2) (v := .int (fi S.1 23)) b (kw_36 cy a rw S) rfl in_X6 (by decide) wf_X6_22 rfl dX6_operand_51 ?_
    refine z_lv0 (lv' := [(0, .ref (a 36)), (1, .int x1), (3, .int y0)]) [1, 2, 0] rfl ?_
    exact z_X6_operand_B54 hrw b _ _ _ _ h
  · replace h := h.2 c1
    refine z_aload_n b dX6_operand_43 rfl rfl ?_
    refine z_get (q0 := 36) (k9 := 3) (v := .int (fi S.1 24)) b (kw_36 cy a rw S) rfl in_X6 (by decide) wf_X6_26 rfl dX6_operand_44 ?_
    refine z_goto (tgt := 54) b dX6_operand_47 (by decide) ?_
    refine z_lv0 (lv' := [(0, .ref (a 36)), (1, .int x1), (3, .int y0)]) [1, 2, 0] rfl ?_
    exact z_X6_operand_B54 hrw b _ _ _ _ h

def w_X6_operand (cy : Nat → ClassId) (tE : Nat) (S : KS) (p0 : Int32) (p1 : Int32) (post : Int32 → KS → Prop) : Prop :=
  ((p0.toInt ≠ 2 → ((p0.toInt ≠ 14 → ((p1.toInt ≠ 0 → w_X6_operand_B38 cy tE post S p0 p1 (fi S.1 24)) ∧ (p1.toInt = 0 → w_X6_operand_B38 cy tE post S p0 p1 (fi S.1 23)))) ∧ (p0.toInt = 14 → ((S.2.1 3) < 5) ∧ w_X9_get cy tE S (S.2.1 3) 50 (fun r20 S21 => post r20 S21)))) ∧ (p0.toInt = 2 → post p1 S))

set_option maxHeartbeats 4000000 in
set_option maxRecDepth 100000 in
theorem k_X6_operand {l : Launch} {D : va_G} {cy : Nat → ClassId} {T0 tB tE : Nat} {a : Nat → Nat} {rw : Nat → Option Nat} (hrw : ∀ i, i < 6 → rw i = some (a (12 + 2 * i))) (S : KS) (p0 : Int32) (p1 : Int32) (post : Int32 → KS → Prop) (h : w_X6_operand cy tE S p0 p1 post) : Ct l D cy T0 tB tE yX6_operand cX6_operand 5 (some .int) 1 23 0 0 (kw cy a rw S) [.ref (a 36), .int p0, .int p1] (QI D (U := KS) post (kw cy a rw)) := by
  refine Ct.ofZ RX6 "operand" [(0, .ref (a 36)), (1, .int p0), (2, .int p1)] rfl rfl rfl rfl (Nat.le_of_ble_eq_true rfl) ?_
  intro p e R s m args below meth c A b
  unfold w_X6_operand at h
  refine z_iload_n b dX6_operand_0 rfl rfl ?_
  refine z_iconst (v := 2) b dX6_operand_1 (by decide) ?_
  refine y_icmp_ne (tgt := 7) (xl := p0.toInt) (yl := 2) b rfl (by decide) dX6_operand_2 (by decide) (fun c1 => ?_) (fun c1 => ?_)
  · replace h := h.1 c1
    refine z_iload_n b dX6_operand_7 rfl rfl ?_
    refine z_bipush (v := 14) b dX6_operand_8 (by decide) ?_
    refine y_icmp_ne (tgt := 23) (xl := p0.toInt) (yl := 14) b rfl (by decide) dX6_operand_10 (by decide) (fun c1 => ?_) (fun c1 => ?_)
    · replace h := h.1 c1
      refine z_iload_n b dX6_operand_23 rfl rfl ?_
      refine y_if_ne (tgt := 34) (xl := p1.toInt) b rfl dX6_operand_24 (by decide) (fun c1 => ?_) (fun c1 => ?_)
      · replace h := h.1 c1
        refine z_aload_n b dX6_operand_34 rfl rfl ?_
        refine z_get (q0 := 36) (k9 := 3) (v := .int (fi S.1 24)) b (kw_36 cy a rw S) rfl in_X6 (by decide) wf_X6_26 rfl dX6_operand_35 ?_
        exact z_X6_operand_B38 hrw b _ _ _ _ h
      · replace h := h.2 c1
        refine z_aload_n b dX6_operand_27 rfl rfl ?_
        refine z_get (q0 := 36) (k9 := 2) (v := .int (fi S.1 23)) b (kw_36 cy a rw S) rfl in_X6 (by decide) wf_X6_22 rfl dX6_operand_28 ?_
        refine z_goto (tgt := 38) b dX6_operand_31 (by decide) ?_
        exact z_X6_operand_B38 hrw b _ _ _ _ h
    · replace h := h.2 c1
      refine z_aload_n b dX6_operand_13 rfl rfl ?_
      refine z_get (q0 := 36) (k9 := 1) (v := .ref (a (2 + 2 * (S.2.1 3)))) b (kw_36 cy a rw S) rfl in_X6 (by decide) wf_X6_18 rfl dX6_operand_14 ?_
      refine z_bipush (v := 50) b dX6_operand_17 (by decide) ?_
      obtain ⟨g19, h⟩ := h
      refine z_calli b (z_runV (q0 := 2 + 2 * (S.2.1 3)) (As := [.int 50]) (st := []) b (k_X9_get hrw S (S.2.1 3) 50 _ h) cf_X9_get (kw_so cy a rw S g19) rfl wm_X6_61 wi_X9_get ws_X9_get dX6_operand_19 rfl (Nat.le_of_ble_eq_true rfl) ⟨by decide, by decide, Nat.le_of_ble_eq_true rfl, Nat.le_of_ble_eq_true rfl⟩) (fun r20 S21 h => ?_)
      exact z_iret (u := S21) b rfl dX6_operand_22 h rfl (by decide) (by decide)
  · replace h := h.2 c1
    refine z_iload_n b dX6_operand_5 rfl rfl ?_
    exact z_iret (u := S) b rfl dX6_operand_6 h rfl (by decide) (by decide)

def w_X6_joined_B132 (cy : Nat → ClassId) (tE : Nat) (post : Int32 → KS → Prop) (S : KS) (y0 : Int32) : Prop :=
  post y0 S

set_option maxHeartbeats 4000000 in
set_option maxRecDepth 100000 in
theorem z_X6_joined_B132 {p : Program} {l : Launch} {e : Env} {R : Room} {s : State} {m : MethodId} {args : Array Value} {below : List Frame} {meth : Method} {c : Code} {D : va_G} {cy : Nat → ClassId} {T0 tB tE : Nat} {A : Nat → Prop} {a : Nat → Nat} {rw : Nat → Option Nat} (hrw : ∀ i, i < 6 → rw i = some (a (12 + 2 * i))) {post : Int32 → KS → Prop} (b : Bz p R s m args meth c D cy T0 tB tE A 3 cX6_joined RX6 (some .int) "joined" 0 0 0 0) (S : KS) (y0 : Int32) (h : w_X6_joined_B132 cy tE post S y0) : Z p l e R s m args below meth c D A 3 (MQ below (QI D (U := KS) post (kw cy a rw) A) args s 0 0 A) 0 0 (kw cy a rw S) [] 132 [.int y0] := by
  unfold w_X6_joined_B132 at h
  exact z_iret (u := S) b rfl dX6_joined_132 h rfl (by decide) (by decide)

def w_X6_joined_B122 (cy : Nat → ClassId) (tE : Nat) (post : Int32 → KS → Prop) (S : KS) (x1 : Int32) (x2 : Int32) : Prop :=
  ((x1.toInt ≤ x2.toInt → w_X6_joined_B132 cy tE post S 0) ∧ (x2.toInt < x1.toInt → w_X6_joined_B132 cy tE post S 1))

set_option maxHeartbeats 4000000 in
set_option maxRecDepth 100000 in
theorem z_X6_joined_B122 {p : Program} {l : Launch} {e : Env} {R : Room} {s : State} {m : MethodId} {args : Array Value} {below : List Frame} {meth : Method} {c : Code} {D : va_G} {cy : Nat → ClassId} {T0 tB tE : Nat} {A : Nat → Prop} {a : Nat → Nat} {rw : Nat → Option Nat} (hrw : ∀ i, i < 6 → rw i = some (a (12 + 2 * i))) {post : Int32 → KS → Prop} (b : Bz p R s m args meth c D cy T0 tB tE A 3 cX6_joined RX6 (some .int) "joined" 0 0 0 0) (S : KS) (x1 : Int32) (x2 : Int32) (h : w_X6_joined_B122 cy tE post S x1 x2) : Z p l e R s m args below meth c D A 3 (MQ below (QI D (U := KS) post (kw cy a rw) A) args s 0 0 A) 0 0 (kw cy a rw S) [(1, .int x1), (2, .int x2)] 122 [] := by
  unfold w_X6_joined_B122 at h
  refine z_iload_n b dX6_joined_122 rfl rfl ?_
  refine z_iload_n b dX6_joined_123 rfl rfl ?_
  refine y_icmp_le (tgt := 131) (xl := x1.toInt) (yl := x2.toInt) b rfl rfl dX6_joined_124 (by decide) (fun c1 => ?_) (fun c1 => ?_)
  · replace h := h.1 c1
    refine z_iconst (v := 0) b dX6_joined_131 (by decide) ?_
    refine z_lv0 (lv' := []) [] rfl ?_
    exact z_X6_joined_B132 hrw b _ _ h
  · replace h := h.2 c1
    refine z_iconst (v := 1) b dX6_joined_127 (by decide) ?_
    refine z_goto (tgt := 132) b dX6_joined_128 (by decide) ?_
    refine z_lv0 (lv' := []) [] rfl ?_
    exact z_X6_joined_B132 hrw b _ _ h

def w_X6_joined_B110 (cy : Nat → ClassId) (tE : Nat) (post : Int32 → KS → Prop) (S : KS) (y0 : Int32) : Prop :=
  post y0 S

set_option maxHeartbeats 4000000 in
set_option maxRecDepth 100000 in
theorem z_X6_joined_B110 {p : Program} {l : Launch} {e : Env} {R : Room} {s : State} {m : MethodId} {args : Array Value} {below : List Frame} {meth : Method} {c : Code} {D : va_G} {cy : Nat → ClassId} {T0 tB tE : Nat} {A : Nat → Prop} {a : Nat → Nat} {rw : Nat → Option Nat} (hrw : ∀ i, i < 6 → rw i = some (a (12 + 2 * i))) {post : Int32 → KS → Prop} (b : Bz p R s m args meth c D cy T0 tB tE A 3 cX6_joined RX6 (some .int) "joined" 0 0 0 0) (S : KS) (y0 : Int32) (h : w_X6_joined_B110 cy tE post S y0) : Z p l e R s m args below meth c D A 3 (MQ below (QI D (U := KS) post (kw cy a rw) A) args s 0 0 A) 0 0 (kw cy a rw S) [] 110 [.int y0] := by
  unfold w_X6_joined_B110 at h
  exact z_iret (u := S) b rfl dX6_joined_110 h rfl (by decide) (by decide)

def w_X6_joined_B121 (cy : Nat → ClassId) (tE : Nat) (post : Int32 → KS → Prop) (S : KS) (y0 : Int32) : Prop :=
  post y0 S

set_option maxHeartbeats 4000000 in
set_option maxRecDepth 100000 in
theorem z_X6_joined_B121 {p : Program} {l : Launch} {e : Env} {R : Room} {s : State} {m : MethodId} {args : Array Value} {below : List Frame} {meth : Method} {c : Code} {D : va_G} {cy : Nat → ClassId} {T0 tB tE : Nat} {A : Nat → Prop} {a : Nat → Nat} {rw : Nat → Option Nat} (hrw : ∀ i, i < 6 → rw i = some (a (12 + 2 * i))) {post : Int32 → KS → Prop} (b : Bz p R s m args meth c D cy T0 tB tE A 3 cX6_joined RX6 (some .int) "joined" 0 0 0 0) (S : KS) (y0 : Int32) (h : w_X6_joined_B121 cy tE post S y0) : Z p l e R s m args below meth c D A 3 (MQ below (QI D (U := KS) post (kw cy a rw) A) args s 0 0 A) 0 0 (kw cy a rw S) [] 121 [.int y0] := by
  unfold w_X6_joined_B121 at h
  exact z_iret (u := S) b rfl dX6_joined_121 h rfl (by decide) (by decide)

def w_X6_joined (cy : Nat → ClassId) (tE : Nat) (S : KS) (p0 : Int32) (p1 : Int32) (p2 : Int32) (post : Int32 → KS → Prop) : Prop :=
  ((p0.toInt = 15 → post (p1 ||| p2) S) ∧ (p0.toInt = 16 → post (p1 &&& p2) S) ∧ (p0.toInt = 17 → w_X6_joined_B122 cy tE post S p1 p2) ∧ (p0.toInt = 18 → w_X6_joined_B122 cy tE post S p1 p2) ∧ (p0.toInt = 19 → w_X6_joined_B122 cy tE post S p1 p2) ∧ (p0.toInt = 20 → w_X6_joined_B122 cy tE post S p1 p2) ∧ (p0.toInt = 21 → w_X6_joined_B122 cy tE post S p1 p2) ∧ (p0.toInt = 22 → w_X6_joined_B122 cy tE post S p1 p2) ∧ (p0.toInt = 23 → w_X6_joined_B122 cy tE post S p1 p2) ∧ (p0.toInt = 24 → post (p1 + p2) S) ∧ (p0.toInt = 25 → post (p1 - p2) S) ∧ (p0.toInt = 26 → post (p1 * p2) S) ∧ (p0.toInt = 27 → w_X6_joined_B122 cy tE post S p1 p2) ∧ (p0.toInt = 28 → w_X6_joined_B122 cy tE post S p1 p2) ∧ (p0.toInt = 29 → ((p2.toInt ≤ p1.toInt → w_X6_joined_B110 cy tE post S 0) ∧ (p1.toInt < p2.toInt → w_X6_joined_B110 cy tE post S 1))) ∧ (p0.toInt = 30 → ((p1.toInt ≠ p2.toInt → w_X6_joined_B121 cy tE post S 0) ∧ (p1.toInt = p2.toInt → w_X6_joined_B121 cy tE post S 1))) ∧ (p0.toInt ≠ 15 ∧ p0.toInt ≠ 16 ∧ p0.toInt ≠ 17 ∧ p0.toInt ≠ 18 ∧ p0.toInt ≠ 19 ∧ p0.toInt ≠ 20 ∧ p0.toInt ≠ 21 ∧ p0.toInt ≠ 22 ∧ p0.toInt ≠ 23 ∧ p0.toInt ≠ 24 ∧ p0.toInt ≠ 25 ∧ p0.toInt ≠ 26 ∧ p0.toInt ≠ 27 ∧ p0.toInt ≠ 28 ∧ p0.toInt ≠ 29 ∧ p0.toInt ≠ 30 → w_X6_joined_B122 cy tE post S p1 p2))

set_option maxHeartbeats 4000000 in
set_option maxRecDepth 100000 in
theorem k_X6_joined {l : Launch} {D : va_G} {cy : Nat → ClassId} {T0 tB tE : Nat} {a : Nat → Nat} {rw : Nat → Option Nat} (hrw : ∀ i, i < 6 → rw i = some (a (12 + 2 * i))) (S : KS) (p0 : Int32) (p1 : Int32) (p2 : Int32) (post : Int32 → KS → Prop) (h : w_X6_joined cy tE S p0 p1 p2 post) : Ct l D cy T0 tB tE yX6_joined cX6_joined 3 (some .int) 0 0 0 0 (kw cy a rw S) [.int p0, .int p1, .int p2] (QI D (U := KS) post (kw cy a rw)) := by
  refine Ct.ofZ RX6 "joined" [(0, .int p0), (1, .int p1), (2, .int p2)] rfl rfl rfl rfl (Nat.le_of_ble_eq_true rfl) ?_
  intro p e R s m args below meth c A b
  unfold w_X6_joined at h
  refine z_iload_n b dX6_joined_0 rfl rfl ?_
  by_cases e1 : p0.toInt = 15
  · replace h := h.1 e1
    refine z_eqi (y := 15) (y_eqc e1 (by decide)) ?_
    refine z_tableIn (tgt := 80) (off := 79) b dX6_joined_1 (by decide) (by decide) (by decide) (by decide) ?_
    refine z_iload_n b dX6_joined_80 rfl rfl ?_
    refine z_iload_n b dX6_joined_81 rfl rfl ?_
    refine z_ior b dX6_joined_82 rfl ?_
    exact z_iret (u := S) b rfl dX6_joined_83 h rfl (by decide) (by decide)
  replace h := h.2
  have o0 := e1
  by_cases e1 : p0.toInt = 16
  · replace h := h.1 e1
    refine z_eqi (y := 16) (y_eqc e1 (by decide)) ?_
    refine z_tableIn (tgt := 84) (off := 83) b dX6_joined_1 (by decide) (by decide) (by decide) (by decide) ?_
    refine z_iload_n b dX6_joined_84 rfl rfl ?_
    refine z_iload_n b dX6_joined_85 rfl rfl ?_
    refine z_iand b dX6_joined_86 rfl ?_
    exact z_iret (u := S) b rfl dX6_joined_87 h rfl (by decide) (by decide)
  replace h := h.2
  have o1 := e1
  by_cases e1 : p0.toInt = 17
  · replace h := h.1 e1
    refine z_eqi (y := 17) (y_eqc e1 (by decide)) ?_
    refine z_tableIn (tgt := 122) (off := 121) b dX6_joined_1 (by decide) (by decide) (by decide) (by decide) ?_
    refine z_lv0 (lv' := [(1, .int p1), (2, .int p2)]) [1, 2] rfl ?_
    exact z_X6_joined_B122 hrw b _ _ _ h
  replace h := h.2
  have o2 := e1
  by_cases e1 : p0.toInt = 18
  · replace h := h.1 e1
    refine z_eqi (y := 18) (y_eqc e1 (by decide)) ?_
    refine z_tableIn (tgt := 122) (off := 121) b dX6_joined_1 (by decide) (by decide) (by decide) (by decide) ?_
    refine z_lv0 (lv' := [(1, .int p1), (2, .int p2)]) [1, 2] rfl ?_
    exact z_X6_joined_B122 hrw b _ _ _ h
  replace h := h.2
  have o3 := e1
  by_cases e1 : p0.toInt = 19
  · replace h := h.1 e1
    refine z_eqi (y := 19) (y_eqc e1 (by decide)) ?_
    refine z_tableIn (tgt := 122) (off := 121) b dX6_joined_1 (by decide) (by decide) (by decide) (by decide) ?_
    refine z_lv0 (lv' := [(1, .int p1), (2, .int p2)]) [1, 2] rfl ?_
    exact z_X6_joined_B122 hrw b _ _ _ h
  replace h := h.2
  have o4 := e1
  by_cases e1 : p0.toInt = 20
  · replace h := h.1 e1
    refine z_eqi (y := 20) (y_eqc e1 (by decide)) ?_
    refine z_tableIn (tgt := 122) (off := 121) b dX6_joined_1 (by decide) (by decide) (by decide) (by decide) ?_
    refine z_lv0 (lv' := [(1, .int p1), (2, .int p2)]) [1, 2] rfl ?_
    exact z_X6_joined_B122 hrw b _ _ _ h
  replace h := h.2
  have o5 := e1
  by_cases e1 : p0.toInt = 21
  · replace h := h.1 e1
    refine z_eqi (y := 21) (y_eqc e1 (by decide)) ?_
    refine z_tableIn (tgt := 122) (off := 121) b dX6_joined_1 (by decide) (by decide) (by decide) (by decide) ?_
    refine z_lv0 (lv' := [(1, .int p1), (2, .int p2)]) [1, 2] rfl ?_
    exact z_X6_joined_B122 hrw b _ _ _ h
  replace h := h.2
  have o6 := e1
  by_cases e1 : p0.toInt = 22
  · replace h := h.1 e1
    refine z_eqi (y := 22) (y_eqc e1 (by decide)) ?_
    refine z_tableIn (tgt := 122) (off := 121) b dX6_joined_1 (by decide) (by decide) (by decide) (by decide) ?_
    refine z_lv0 (lv' := [(1, .int p1), (2, .int p2)]) [1, 2] rfl ?_
    exact z_X6_joined_B122 hrw b _ _ _ h
  replace h := h.2
  have o7 := e1
  by_cases e1 : p0.toInt = 23
  · replace h := h.1 e1
    refine z_eqi (y := 23) (y_eqc e1 (by decide)) ?_
    refine z_tableIn (tgt := 122) (off := 121) b dX6_joined_1 (by decide) (by decide) (by decide) (by decide) ?_
    refine z_lv0 (lv' := [(1, .int p1), (2, .int p2)]) [1, 2] rfl ?_
    exact z_X6_joined_B122 hrw b _ _ _ h
  replace h := h.2
  have o8 := e1
  by_cases e1 : p0.toInt = 24
  · replace h := h.1 e1
    refine z_eqi (y := 24) (y_eqc e1 (by decide)) ?_
    refine z_tableIn (tgt := 88) (off := 87) b dX6_joined_1 (by decide) (by decide) (by decide) (by decide) ?_
    refine z_iload_n b dX6_joined_88 rfl rfl ?_
    refine z_iload_n b dX6_joined_89 rfl rfl ?_
    refine z_iadd b dX6_joined_90 rfl ?_
    exact z_iret (u := S) b rfl dX6_joined_91 h rfl (by decide) (by decide)
  replace h := h.2
  have o9 := e1
  by_cases e1 : p0.toInt = 25
  · replace h := h.1 e1
    refine z_eqi (y := 25) (y_eqc e1 (by decide)) ?_
    refine z_tableIn (tgt := 92) (off := 91) b dX6_joined_1 (by decide) (by decide) (by decide) (by decide) ?_
    refine z_iload_n b dX6_joined_92 rfl rfl ?_
    refine z_iload_n b dX6_joined_93 rfl rfl ?_
    refine z_isub b dX6_joined_94 rfl ?_
    exact z_iret (u := S) b rfl dX6_joined_95 h rfl (by decide) (by decide)
  replace h := h.2
  have o10 := e1
  by_cases e1 : p0.toInt = 26
  · replace h := h.1 e1
    refine z_eqi (y := 26) (y_eqc e1 (by decide)) ?_
    refine z_tableIn (tgt := 96) (off := 95) b dX6_joined_1 (by decide) (by decide) (by decide) (by decide) ?_
    refine z_iload_n b dX6_joined_96 rfl rfl ?_
    refine z_iload_n b dX6_joined_97 rfl rfl ?_
    refine z_imul b dX6_joined_98 rfl ?_
    exact z_iret (u := S) b rfl dX6_joined_99 h rfl (by decide) (by decide)
  replace h := h.2
  have o11 := e1
  by_cases e1 : p0.toInt = 27
  · replace h := h.1 e1
    refine z_eqi (y := 27) (y_eqc e1 (by decide)) ?_
    refine z_tableIn (tgt := 122) (off := 121) b dX6_joined_1 (by decide) (by decide) (by decide) (by decide) ?_
    refine z_lv0 (lv' := [(1, .int p1), (2, .int p2)]) [1, 2] rfl ?_
    exact z_X6_joined_B122 hrw b _ _ _ h
  replace h := h.2
  have o12 := e1
  by_cases e1 : p0.toInt = 28
  · replace h := h.1 e1
    refine z_eqi (y := 28) (y_eqc e1 (by decide)) ?_
    refine z_tableIn (tgt := 122) (off := 121) b dX6_joined_1 (by decide) (by decide) (by decide) (by decide) ?_
    refine z_lv0 (lv' := [(1, .int p1), (2, .int p2)]) [1, 2] rfl ?_
    exact z_X6_joined_B122 hrw b _ _ _ h
  replace h := h.2
  have o13 := e1
  by_cases e1 : p0.toInt = 29
  · replace h := h.1 e1
    refine z_eqi (y := 29) (y_eqc e1 (by decide)) ?_
    refine z_tableIn (tgt := 100) (off := 99) b dX6_joined_1 (by decide) (by decide) (by decide) (by decide) ?_
    refine z_iload_n b dX6_joined_100 rfl rfl ?_
    refine z_iload_n b dX6_joined_101 rfl rfl ?_
    refine y_icmp_ge (tgt := 109) (xl := p1.toInt) (yl := p2.toInt) b rfl rfl dX6_joined_102 (by decide) (fun c1 => ?_) (fun c1 => ?_)
    · replace h := h.1 c1
      refine z_iconst (v := 0) b dX6_joined_109 (by decide) ?_
      refine z_lv0 (lv' := []) [] rfl ?_
      exact z_X6_joined_B110 hrw b _ _ h
    · replace h := h.2 c1
      refine z_iconst (v := 1) b dX6_joined_105 (by decide) ?_
      refine z_goto (tgt := 110) b dX6_joined_106 (by decide) ?_
      refine z_lv0 (lv' := []) [] rfl ?_
      exact z_X6_joined_B110 hrw b _ _ h
  replace h := h.2
  have o14 := e1
  by_cases e1 : p0.toInt = 30
  · replace h := h.1 e1
    refine z_eqi (y := 30) (y_eqc e1 (by decide)) ?_
    refine z_tableIn (tgt := 111) (off := 110) b dX6_joined_1 (by decide) (by decide) (by decide) (by decide) ?_
    refine z_iload_n b dX6_joined_111 rfl rfl ?_
    refine z_iload_n b dX6_joined_112 rfl rfl ?_
    refine y_icmp_ne (tgt := 120) (xl := p1.toInt) (yl := p2.toInt) b rfl rfl dX6_joined_113 (by decide) (fun c1 => ?_) (fun c1 => ?_)
    · replace h := h.1 c1
      refine z_iconst (v := 0) b dX6_joined_120 (by decide) ?_
      refine z_lv0 (lv' := []) [] rfl ?_
      exact z_X6_joined_B121 hrw b _ _ h
    · replace h := h.2 c1
      refine z_iconst (v := 1) b dX6_joined_116 (by decide) ?_
      refine z_goto (tgt := 121) b dX6_joined_117 (by decide) ?_
      refine z_lv0 (lv' := []) [] rfl ?_
      exact z_X6_joined_B121 hrw b _ _ h
  replace h := h.2
  have o15 := e1
  replace h := h ⟨o0, o1, o2, o3, o4, o5, o6, o7, o8, o9, o10, o11, o12, o13, o14, o15⟩
  refine z_tableOut (tgt := 122) b dX6_joined_1 (by omega) (by decide) ?_
  refine z_lv0 (lv' := [(1, .int p1), (2, .int p2)]) [1, 2] rfl ?_
  exact z_X6_joined_B122 hrw b _ _ _ h

def w_X6_value_B138 (cy : Nat → ClassId) (tE : Nat) (post : Int32 → KS → Prop) (k4 : KS → Nat → Int32 → Int32 → Prop) (k144 : KS → Int32 → Prop) (S : KS) (x1 : Nat) (x2 : Int32) (x3 : Int32) : Prop :=
  k4 S x1 x2 (x3 + 1)

set_option maxHeartbeats 4000000 in
set_option maxRecDepth 100000 in
theorem z_X6_value_B138 {p : Program} {l : Launch} {e : Env} {R : Room} {s : State} {m : MethodId} {args : Array Value} {below : List Frame} {meth : Method} {c : Code} {D : va_G} {cy : Nat → ClassId} {T0 tB tE : Nat} {A : Nat → Prop} {a : Nat → Nat} {rw : Nat → Option Nat} (hrw : ∀ i, i < 6 → rw i = some (a (12 + 2 * i))) {post : Int32 → KS → Prop} {k4 : KS → Nat → Int32 → Int32 → Prop} {k144 : KS → Int32 → Prop} (b : Bz p R s m args meth c D cy T0 tB tE A 6 cX6_value RX6 (some .int) "value" 2 47 0 0) (hk4 : ∀ (S : KS) (x1 : Nat) (x2 : Int32) (x3 : Int32), k4 S x1 x2 x3 → Z p l e R s m args below meth c D A 6 (MQ below (QI D (U := KS) post (kw cy a rw) A) args s 0 0 A) 0 0 (kw cy a rw S) [(0, .ref (a 36)), (1, .ref x1), (2, .int x2), (3, .int x3)] 4 []) (hk144 : ∀ (S : KS) (x2 : Int32), k144 S x2 → Z p l e R s m args below meth c D A 6 (MQ below (QI D (U := KS) post (kw cy a rw) A) args s 0 0 A) 0 0 (kw cy a rw S) [(0, .ref (a 36)), (2, .int x2)] 144 []) (S : KS) (x1 : Nat) (x2 : Int32) (x3 : Int32) (h : w_X6_value_B138 cy tE post k4 k144 S x1 x2 x3) : Z p l e R s m args below meth c D A 6 (MQ below (QI D (U := KS) post (kw cy a rw) A) args s 0 0 A) 0 0 (kw cy a rw S) [(0, .ref (a 36)), (1, .ref x1), (2, .int x2), (3, .int x3)] 138 [] := by
  unfold w_X6_value_B138 at h
  refine z_iinc (k9 := 3) (v := (x3 + 1)) (lv' := [(3, .int (x3 + 1)), (0, .ref (a 36)), (1, .ref x1), (2, .int x2)]) b dX6_value_138 rfl rfl (by decide) rfl ?_
  refine z_goto (tgt := 4) b dX6_value_141 (by decide) ?_
  refine z_lv0 (lv' := [(0, .ref (a 36)), (1, .ref x1), (2, .int x2), (3, .int (x3 + 1))]) [1, 2, 3, 0] rfl ?_
  exact hk4 _ _ _ _ h

def w_X6_value_F4 (cy : Nat → ClassId) (tE : Nat) (post : Int32 → KS → Prop) (k144 : KS → Int32 → Prop) (k4 : KS → Nat → Int32 → Int32 → Prop) (S : KS) (x1 : Nat) (x2 : Int32) (x3 : Int32) : Prop :=
  ∃ (i1 : Nat) (f2 : Int32) (f3 : Int32) (f4 : Nat), S.2.2.2[i1]? = some (x1, .inr (2, [.int f2, .int f3, .ref f4])) ∧ ∃ (i6 n7 : Nat) (f8 : Nat → Int32), S.2.2.2[i6]? = some (f4, .inl (cy 0, n7, .inl f8)) ∧ (((Int32.ofNat n7).toInt ≤ x3.toInt → k144 S x2) ∧ (x3.toInt < (Int32.ofNat n7).toInt → ∃ (i10 : Nat) (f11 : Int32) (f12 : Int32) (f13 : Nat), S.2.2.2[i10]? = some (x1, .inr (2, [.int f11, .int f12, .ref f13])) ∧ ∃ (i15 n16 : Nat) (f17 : Nat → Int32), S.2.2.2[i15]? = some (f13, .inl (cy 0, n16, .inl f17)) ∧ (0 ≤ x3.toInt ∧ x3.toInt < (n16 : Int)) ∧ w_X6_isJoint cy tE S ((f17 x3.toNatClampNeg) - (f17 x3.toNatClampNeg) / 32 * 32) (fun r20 S21 => ((r20.toInt = 0 → ((((f17 x3.toNatClampNeg) - (f17 x3.toNatClampNeg) / 32 * 32).toInt ≠ 17 → ((x2.toInt < 0 → w_X6_value_B138 cy tE post k4 k144 S21 x1 x2 x3) ∧ (0 ≤ x2.toInt → ((40 ≤ x2.toInt → w_X6_value_B138 cy tE post k4 k144 S21 x1 x2 x3) ∧ (x2.toInt < 40 → w_X6_operand cy tE S21 ((f17 x3.toNatClampNeg) - (f17 x3.toNatClampNeg) / 32 * 32) ((f17 x3.toNatClampNeg) / 32) (fun r22 S23 => (0 ≤ x2.toInt ∧ x2.toInt < 40) ∧ w_X6_value_B138 cy tE post k4 k144 (ksu S23 16 (x2.toNatClampNeg) r22) x1 (x2 + 1) x3)))))) ∧ (((f17 x3.toNatClampNeg) - (f17 x3.toNatClampNeg) / 32 * 32).toInt = 17 → ((x2.toInt ≤ 0 → w_X6_value_B138 cy tE post k4 k144 S21 x1 x2 x3) ∧ (0 < x2.toInt → (0 ≤ (x2 - 1).toInt ∧ (x2 - 1).toInt < 40) ∧ (0 ≤ (x2 - 1).toInt ∧ (x2 - 1).toInt < 40) ∧ w_X6_value_B138 cy tE post k4 k144 (ksu S21 16 ((x2 - 1).toNatClampNeg) ((1 : Int32) - ((ar S21.1 16) (x2 - 1).toNatClampNeg))) x1 x2 x3))))) ∧ (r20.toInt ≠ 0 → (((x2 + (-1)).toInt ≤ 0 → w_X6_value_B138 cy tE post k4 k144 S21 x1 (x2 + (-1)) x3) ∧ (0 < (x2 + (-1)).toInt → (0 ≤ ((x2 + (-1)) - 1).toInt ∧ ((x2 + (-1)) - 1).toInt < 40) ∧ (0 ≤ (x2 + (-1)).toInt ∧ (x2 + (-1)).toInt < 40) ∧ w_X6_joined cy tE S21 ((f17 x3.toNatClampNeg) - (f17 x3.toNatClampNeg) / 32 * 32) ((ar S21.1 16) ((x2 + (-1)) - 1).toNatClampNeg) ((ar S21.1 16) (x2 + (-1)).toNatClampNeg) (fun r29 S30 => (0 ≤ ((x2 + (-1)) - 1).toInt ∧ ((x2 + (-1)) - 1).toInt < 40) ∧ w_X6_value_B138 cy tE post k4 k144 (ksu S30 16 (((x2 + (-1)) - 1).toNatClampNeg) r29) x1 (x2 + (-1)) x3))))))))

set_option maxHeartbeats 4000000 in
set_option maxRecDepth 100000 in
theorem z_X6_value_F4 {p : Program} {l : Launch} {e : Env} {R : Room} {s : State} {m : MethodId} {args : Array Value} {below : List Frame} {meth : Method} {c : Code} {D : va_G} {cy : Nat → ClassId} {T0 tB tE : Nat} {A : Nat → Prop} {a : Nat → Nat} {rw : Nat → Option Nat} (hrw : ∀ i, i < 6 → rw i = some (a (12 + 2 * i))) {post : Int32 → KS → Prop} {k144 : KS → Int32 → Prop} {k4 : KS → Nat → Int32 → Int32 → Prop} (b : Bz p R s m args meth c D cy T0 tB tE A 6 cX6_value RX6 (some .int) "value" 2 47 0 0) (hk144 : ∀ (S : KS) (x2 : Int32), k144 S x2 → Z p l e R s m args below meth c D A 6 (MQ below (QI D (U := KS) post (kw cy a rw) A) args s 0 0 A) 0 0 (kw cy a rw S) [(0, .ref (a 36)), (2, .int x2)] 144 []) (hk4 : ∀ (S : KS) (x1 : Nat) (x2 : Int32) (x3 : Int32), k4 S x1 x2 x3 → Z p l e R s m args below meth c D A 6 (MQ below (QI D (U := KS) post (kw cy a rw) A) args s 0 0 A) 0 0 (kw cy a rw S) [(0, .ref (a 36)), (1, .ref x1), (2, .int x2), (3, .int x3)] 4 []) (S : KS) (x1 : Nat) (x2 : Int32) (x3 : Int32) (h : w_X6_value_F4 cy tE post k144 k4 S x1 x2 x3) : Z p l e R s m args below meth c D A 6 (MQ below (QI D (U := KS) post (kw cy a rw) A) args s 0 0 A) 0 0 (kw cy a rw S) [(0, .ref (a 36)), (1, .ref x1), (2, .int x2), (3, .int x3)] 4 [] := by
  unfold w_X6_value_F4 at h
  refine z_iload_n b dX6_value_4 rfl rfl ?_
  refine z_aload_n b dX6_value_5 rfl rfl ?_
  obtain ⟨i1, f2, f3, f4, g5, h⟩ := h
  refine z_get (q0 := 47 + i1) (k9 := 2) (v := .ref f4) b (kw_dyn cy a rw S g5) rfl in_X1 (by decide) wf_X6_42 rfl dX6_value_6 ?_
  obtain ⟨i6, n7, f8, g9, h⟩ := h
  refine z_alen (q0 := 47 + i6) (t0 := 0) (v := Int32.ofNat n7) b (kw_dyn cy a rw S g9) rfl rfl dX6_value_9 ?_
  refine y_icmp_ge (tgt := 144) (xl := x3.toInt) (yl := (Int32.ofNat n7).toInt) b rfl rfl dX6_value_10 (by decide) (fun c1 => ?_) (fun c1 => ?_)
  · replace h := h.1 c1
    refine z_lv0 (lv' := [(0, .ref (a 36)), (2, .int x2)]) [0, 2] rfl ?_
    exact hk144 _ _ h
  · replace h := h.2 c1
    refine z_aload_n b dX6_value_13 rfl rfl ?_
    obtain ⟨i10, f11, f12, f13, g14, h⟩ := h
    refine z_get (q0 := 47 + i10) (k9 := 2) (v := .ref f13) b (kw_dyn cy a rw S g14) rfl in_X1 (by decide) wf_X6_42 rfl dX6_value_14 ?_
    refine z_iload_n b dX6_value_17 rfl rfl ?_
    obtain ⟨i15, n16, f17, g18, h⟩ := h
    obtain ⟨g19, h⟩ := h
    refine y_iald (q0 := 47 + i15) (j := x3.toNatClampNeg) (v := (f17 x3.toNatClampNeg)) b (kw_dyn cy a rw S g18) (zx_r g19.1 g19.2) rfl dX6_value_18 ?_
    refine z_istore (lv' := [(4, .int (f17 x3.toNatClampNeg)), (0, .ref (a 36)), (1, .ref x1), (2, .int x2), (3, .int x3)]) b dX6_value_19 (by decide) rfl ?_
    refine z_iload b dX6_value_21 rfl ?_
    refine z_bipush (v := 32) b dX6_value_23 (by decide) ?_
    refine z_irem b dX6_value_25 (by decide) rfl ?_
    refine z_istore (lv' := [(5, .int ((f17 x3.toNatClampNeg) - (f17 x3.toNatClampNeg) / 32 * 32)), (4, .int (f17 x3.toNatClampNeg)), (0, .ref (a 36)), (1, .ref x1), (2, .int x2), (3, .int x3)]) b dX6_value_26 (by decide) rfl ?_
    refine z_iload b dX6_value_28 rfl ?_
    refine z_calli b (z_runS (As := [.int ((f17 x3.toNatClampNeg) - (f17 x3.toNatClampNeg) / 32 * 32)]) (st := []) b (k_X6_isJoint hrw S ((f17 x3.toNatClampNeg) - (f17 x3.toNatClampNeg) / 32 * 32) _ h) cf_X6_isJoint wm_X6_49 ws_X6_isJoint dX6_value_30 rfl (Nat.le_of_ble_eq_true rfl) ⟨by decide, by decide, Nat.le_of_ble_eq_true rfl, Nat.le_of_ble_eq_true rfl⟩) (fun r20 S21 h => ?_)
    refine y_if_eq (tgt := 73) (xl := r20.toInt) b rfl dX6_value_33 (by decide) (fun c1 => ?_) (fun c1 => ?_)
    · replace h := h.1 c1
      refine z_iload b dX6_value_73 rfl ?_
      refine z_bipush (v := 17) b dX6_value_75 (by decide) ?_
      refine y_icmp_ne (tgt := 105) (xl := ((f17 x3.toNatClampNeg) - (f17 x3.toNatClampNeg) / 32 * 32).toInt) (yl := 17) b rfl (by decide) dX6_value_77 (by decide) (fun c1 => ?_) (fun c1 => ?_)
      · replace h := h.1 c1
        refine z_iload_n b dX6_value_105 rfl rfl ?_
        refine y_if_lt (tgt := 138) (xl := x2.toInt) b rfl dX6_value_106 (by decide) (fun c1 => ?_) (fun c1 => ?_)
        · replace h := h.1 c1
          refine z_lv0 (lv' := [(0, .ref (a 36)), (1, .ref x1), (2, .int x2), (3, .int x3)]) [2, 3, 4, 5] rfl ?_
          exact z_X6_value_B138 hrw b hk4 hk144 _ _ _ _ h
        · replace h := h.2 c1
          refine z_iload_n b dX6_value_109 rfl rfl ?_
          refine z_aload_n b dX6_value_110 rfl rfl ?_
          refine z_get (q0 := 36) (k9 := 0) (v := .ref (a 37)) b (kw_36 cy a rw S21) rfl in_X6 (by decide) wf_X6_11 rfl dX6_value_111 ?_
          refine z_alen (q0 := 37) (t0 := 0) (v := 40) b (kw_37 cy a rw S21) rfl rfl dX6_value_114 ?_
          refine y_icmp_ge (tgt := 138) (xl := x2.toInt) (yl := 40) b rfl (by decide) dX6_value_115 (by decide) (fun c1 => ?_) (fun c1 => ?_)
          · replace h := h.1 c1
            refine z_lv0 (lv' := [(0, .ref (a 36)), (1, .ref x1), (2, .int x2), (3, .int x3)]) [2, 3, 4, 5] rfl ?_
            exact z_X6_value_B138 hrw b hk4 hk144 _ _ _ _ h
          · replace h := h.2 c1
            refine z_aload_n b dX6_value_118 rfl rfl ?_
            refine z_get (q0 := 36) (k9 := 0) (v := .ref (a 37)) b (kw_36 cy a rw S21) rfl in_X6 (by decide) wf_X6_11 rfl dX6_value_119 ?_
            refine z_iload_n b dX6_value_122 rfl rfl ?_
            refine z_aload_n b dX6_value_123 rfl rfl ?_
            refine z_iload b dX6_value_124 rfl ?_
            refine z_iload b dX6_value_126 rfl ?_
            refine z_bipush (v := 32) b dX6_value_128 (by decide) ?_
            refine z_idiv b dX6_value_130 (by decide) rfl ?_
            refine z_calli b (z_runV (q0 := 36) (As := [.int ((f17 x3.toNatClampNeg) - (f17 x3.toNatClampNeg) / 32 * 32), .int ((f17 x3.toNatClampNeg) / 32)]) (st := [.int x2, .ref (a 37)]) b (k_X6_operand hrw S21 ((f17 x3.toNatClampNeg) - (f17 x3.toNatClampNeg) / 32 * 32) ((f17 x3.toNatClampNeg) / 32) _ h) cf_X6_operand (kw_36 cy a rw S21) rfl wm_X6_57 wi_X6_operand ws_X6_operand dX6_value_131 rfl (Nat.le_of_ble_eq_true rfl) ⟨by decide, by decide, Nat.le_of_ble_eq_true rfl, Nat.le_of_ble_eq_true rfl⟩) (fun r22 S23 h => ?_)
            obtain ⟨g24, h⟩ := h
            refine y_iast (q0 := 37) (j := x2.toNatClampNeg) b (kw_37 cy a rw S23) (zx_r g24.1 g24.2) dX6_value_134 (kwa_37 cy a rw S23 (x2.toNatClampNeg) r22) ?_
            refine z_iinc (k9 := 4) (v := (x2 + 1)) (lv' := [(2, .int (x2 + 1)), (5, .int ((f17 x3.toNatClampNeg) - (f17 x3.toNatClampNeg) / 32 * 32)), (4, .int (f17 x3.toNatClampNeg)), (0, .ref (a 36)), (1, .ref x1), (3, .int x3)]) b dX6_value_135 rfl rfl (by decide) rfl ?_
            refine z_lv0 (lv' := [(0, .ref (a 36)), (1, .ref x1), (2, .int (x2 + 1)), (3, .int x3)]) [3, 4, 0, 5] rfl ?_
            exact z_X6_value_B138 hrw b hk4 hk144 _ _ _ _ h
      · replace h := h.2 c1
        refine z_iload_n b dX6_value_80 rfl rfl ?_
        refine y_if_le (tgt := 138) (xl := x2.toInt) b rfl dX6_value_81 (by decide) (fun c1 => ?_) (fun c1 => ?_)
        · replace h := h.1 c1
          refine z_lv0 (lv' := [(0, .ref (a 36)), (1, .ref x1), (2, .int x2), (3, .int x3)]) [2, 3, 4, 5] rfl ?_
          exact z_X6_value_B138 hrw b hk4 hk144 _ _ _ _ h
        · replace h := h.2 c1
          refine z_aload_n b dX6_value_84 rfl rfl ?_
          refine z_get (q0 := 36) (k9 := 0) (v := .ref (a 37)) b (kw_36 cy a rw S21) rfl in_X6 (by decide) wf_X6_11 rfl dX6_value_85 ?_
          refine z_iload_n b dX6_value_88 rfl rfl ?_
          refine z_iconst (v := 1) b dX6_value_89 (by decide) ?_
          refine z_isub b dX6_value_90 rfl ?_
          refine z_iconst (v := 1) b dX6_value_91 (by decide) ?_
          refine z_aload_n b dX6_value_92 rfl rfl ?_
          refine z_get (q0 := 36) (k9 := 0) (v := .ref (a 37)) b (kw_36 cy a rw S21) rfl in_X6 (by decide) wf_X6_11 rfl dX6_value_93 ?_
          refine z_iload_n b dX6_value_96 rfl rfl ?_
          refine z_iconst (v := 1) b dX6_value_97 (by decide) ?_
          refine z_isub b dX6_value_98 rfl ?_
          obtain ⟨g25, h⟩ := h
          refine y_iald (q0 := 37) (j := (x2 - 1).toNatClampNeg) (v := ((ar S21.1 16) (x2 - 1).toNatClampNeg)) b (kw_37 cy a rw S21) (zx_r g25.1 g25.2) rfl dX6_value_99 ?_
          refine z_isub b dX6_value_100 rfl ?_
          obtain ⟨g26, h⟩ := h
          refine y_iast (q0 := 37) (j := (x2 - 1).toNatClampNeg) b (kw_37 cy a rw S21) (zx_r g26.1 g26.2) dX6_value_101 (kwa_37 cy a rw S21 ((x2 - 1).toNatClampNeg) ((1 : Int32) - ((ar S21.1 16) (x2 - 1).toNatClampNeg))) ?_
          refine z_goto (tgt := 138) b dX6_value_102 (by decide) ?_
          refine z_lv0 (lv' := [(0, .ref (a 36)), (1, .ref x1), (2, .int x2), (3, .int x3)]) [2, 3, 4, 5] rfl ?_
          exact z_X6_value_B138 hrw b hk4 hk144 _ _ _ _ h
    · replace h := h.2 c1
      refine z_iinc (k9 := 4) (v := (x2 + (-1))) (lv' := [(2, .int (x2 + (-1))), (5, .int ((f17 x3.toNatClampNeg) - (f17 x3.toNatClampNeg) / 32 * 32)), (4, .int (f17 x3.toNatClampNeg)), (0, .ref (a 36)), (1, .ref x1), (3, .int x3)]) b dX6_value_36 rfl rfl (by decide) rfl ?_
      refine z_iload_n b dX6_value_39 rfl rfl ?_
      refine y_if_le (tgt := 138) (xl := (x2 + (-1)).toInt) b rfl dX6_value_40 (by decide) (fun c1 => ?_) (fun c1 => ?_)
      · replace h := h.1 c1
        refine z_lv0 (lv' := [(0, .ref (a 36)), (1, .ref x1), (2, .int (x2 + (-1))), (3, .int x3)]) [3, 4, 0, 5] rfl ?_
        exact z_X6_value_B138 hrw b hk4 hk144 _ _ _ _ h
      · replace h := h.2 c1
        refine z_aload_n b dX6_value_43 rfl rfl ?_
        refine z_get (q0 := 36) (k9 := 0) (v := .ref (a 37)) b (kw_36 cy a rw S21) rfl in_X6 (by decide) wf_X6_11 rfl dX6_value_44 ?_
        refine z_iload_n b dX6_value_47 rfl rfl ?_
        refine z_iconst (v := 1) b dX6_value_48 (by decide) ?_
        refine z_isub b dX6_value_49 rfl ?_
        refine z_iload b dX6_value_50 rfl ?_
        refine z_aload_n b dX6_value_52 rfl rfl ?_
        refine z_get (q0 := 36) (k9 := 0) (v := .ref (a 37)) b (kw_36 cy a rw S21) rfl in_X6 (by decide) wf_X6_11 rfl dX6_value_53 ?_
        refine z_iload_n b dX6_value_56 rfl rfl ?_
        refine z_iconst (v := 1) b dX6_value_57 (by decide) ?_
        refine z_isub b dX6_value_58 rfl ?_
        obtain ⟨g27, h⟩ := h
        refine y_iald (q0 := 37) (j := ((x2 + (-1)) - 1).toNatClampNeg) (v := ((ar S21.1 16) ((x2 + (-1)) - 1).toNatClampNeg)) b (kw_37 cy a rw S21) (zx_r g27.1 g27.2) rfl dX6_value_59 ?_
        refine z_aload_n b dX6_value_60 rfl rfl ?_
        refine z_get (q0 := 36) (k9 := 0) (v := .ref (a 37)) b (kw_36 cy a rw S21) rfl in_X6 (by decide) wf_X6_11 rfl dX6_value_61 ?_
        refine z_iload_n b dX6_value_64 rfl rfl ?_
        obtain ⟨g28, h⟩ := h
        refine y_iald (q0 := 37) (j := (x2 + (-1)).toNatClampNeg) (v := ((ar S21.1 16) (x2 + (-1)).toNatClampNeg)) b (kw_37 cy a rw S21) (zx_r g28.1 g28.2) rfl dX6_value_65 ?_
        refine z_calli b (z_runS (As := [.int ((f17 x3.toNatClampNeg) - (f17 x3.toNatClampNeg) / 32 * 32), .int ((ar S21.1 16) ((x2 + (-1)) - 1).toNatClampNeg), .int ((ar S21.1 16) (x2 + (-1)).toNatClampNeg)]) (st := [.int ((x2 + (-1)) - 1), .ref (a 37)]) b (k_X6_joined hrw S21 ((f17 x3.toNatClampNeg) - (f17 x3.toNatClampNeg) / 32 * 32) ((ar S21.1 16) ((x2 + (-1)) - 1).toNatClampNeg) ((ar S21.1 16) (x2 + (-1)).toNatClampNeg) _ h) cf_X6_joined wm_X6_53 ws_X6_joined dX6_value_66 rfl (Nat.le_of_ble_eq_true rfl) ⟨by decide, by decide, Nat.le_of_ble_eq_true rfl, Nat.le_of_ble_eq_true rfl⟩) (fun r29 S30 h => ?_)
        obtain ⟨g31, h⟩ := h
        refine y_iast (q0 := 37) (j := ((x2 + (-1)) - 1).toNatClampNeg) b (kw_37 cy a rw S30) (zx_r g31.1 g31.2) dX6_value_69 (kwa_37 cy a rw S30 (((x2 + (-1)) - 1).toNatClampNeg) r29) ?_
        refine z_goto (tgt := 138) b dX6_value_70 (by decide) ?_
        refine z_lv0 (lv' := [(0, .ref (a 36)), (1, .ref x1), (2, .int (x2 + (-1))), (3, .int x3)]) [3, 4, 0, 5] rfl ?_
        exact z_X6_value_B138 hrw b hk4 hk144 _ _ _ _ h

set_option maxHeartbeats 4000000 in
set_option maxRecDepth 100000 in
theorem zl_X6_value_L4 {p : Program} {l : Launch} {e : Env} {R : Room} {s : State} {m : MethodId} {args : Array Value} {below : List Frame} {meth : Method} {c : Code} {D : va_G} {cy : Nat → ClassId} {T0 tB tE : Nat} {A : Nat → Prop} {a : Nat → Nat} {rw : Nat → Option Nat} (hrw : ∀ i, i < 6 → rw i = some (a (12 + 2 * i))) {post : Int32 → KS → Prop} {k144 : KS → Int32 → Prop} (b : Bz p R s m args meth c D cy T0 tB tE A 6 cX6_value RX6 (some .int) "value" 2 47 0 0) (hk144 : ∀ (S : KS) (x2 : Int32), k144 S x2 → Z p l e R s m args below meth c D A 6 (MQ below (QI D (U := KS) post (kw cy a rw) A) args s 0 0 A) 0 0 (kw cy a rw S) [(0, .ref (a 36)), (2, .int x2)] 144 []) : ∀ (n : Nat) (S : KS) (x1 : Nat) (x2 : Int32) (x3 : Int32), lpn (w_X6_value_F4 cy tE post k144) (fun _ _ _ _ => False) n S x1 x2 x3 → Z p l e R s m args below meth c D A 6 (MQ below (QI D (U := KS) post (kw cy a rw) A) args s 0 0 A) 0 0 (kw cy a rw S) [(0, .ref (a 36)), (1, .ref x1), (2, .int x2), (3, .int x3)] 4 [] := by
  intro n
  induction n with
  | zero => intro _ _ _ _ h; exact h.elim
  | succ n ih => intro S x1 x2 x3 h; exact z_X6_value_F4 hrw b hk144 ih S x1 x2 x3 h

def w_X6_value_B158 (cy : Nat → ClassId) (tE : Nat) (post : Int32 → KS → Prop) (S : KS) (y0 : Int32) : Prop :=
  post y0 S

set_option maxHeartbeats 4000000 in
set_option maxRecDepth 100000 in
theorem z_X6_value_B158 {p : Program} {l : Launch} {e : Env} {R : Room} {s : State} {m : MethodId} {args : Array Value} {below : List Frame} {meth : Method} {c : Code} {D : va_G} {cy : Nat → ClassId} {T0 tB tE : Nat} {A : Nat → Prop} {a : Nat → Nat} {rw : Nat → Option Nat} (hrw : ∀ i, i < 6 → rw i = some (a (12 + 2 * i))) {post : Int32 → KS → Prop} (b : Bz p R s m args meth c D cy T0 tB tE A 6 cX6_value RX6 (some .int) "value" 2 47 0 0) (S : KS) (y0 : Int32) (h : w_X6_value_B158 cy tE post S y0) : Z p l e R s m args below meth c D A 6 (MQ below (QI D (U := KS) post (kw cy a rw) A) args s 0 0 A) 0 0 (kw cy a rw S) [] 158 [.int y0] := by
  unfold w_X6_value_B158 at h
  exact z_iret (u := S) b rfl dX6_value_158 h rfl (by decide) (by decide)

def w_X6_value_B144 (cy : Nat → ClassId) (tE : Nat) (post : Int32 → KS → Prop) (S : KS) (x2 : Int32) : Prop :=
  ((x2.toInt ≤ 0 → w_X6_value_B158 cy tE post S 0) ∧ (0 < x2.toInt → w_X6_value_B158 cy tE post S ((ar S.1 16) 0)))

set_option maxHeartbeats 4000000 in
set_option maxRecDepth 100000 in
theorem z_X6_value_B144 {p : Program} {l : Launch} {e : Env} {R : Room} {s : State} {m : MethodId} {args : Array Value} {below : List Frame} {meth : Method} {c : Code} {D : va_G} {cy : Nat → ClassId} {T0 tB tE : Nat} {A : Nat → Prop} {a : Nat → Nat} {rw : Nat → Option Nat} (hrw : ∀ i, i < 6 → rw i = some (a (12 + 2 * i))) {post : Int32 → KS → Prop} (b : Bz p R s m args meth c D cy T0 tB tE A 6 cX6_value RX6 (some .int) "value" 2 47 0 0) (S : KS) (x2 : Int32) (h : w_X6_value_B144 cy tE post S x2) : Z p l e R s m args below meth c D A 6 (MQ below (QI D (U := KS) post (kw cy a rw) A) args s 0 0 A) 0 0 (kw cy a rw S) [(0, .ref (a 36)), (2, .int x2)] 144 [] := by
  unfold w_X6_value_B144 at h
  refine z_iload_n b dX6_value_144 rfl rfl ?_
  refine y_if_le (tgt := 157) (xl := x2.toInt) b rfl dX6_value_145 (by decide) (fun c1 => ?_) (fun c1 => ?_)
  · replace h := h.1 c1
    refine z_iconst (v := 0) b dX6_value_157 (by decide) ?_
    refine z_lv0 (lv' := []) [] rfl ?_
    exact z_X6_value_B158 hrw b _ _ h
  · replace h := h.2 c1
    refine z_aload_n b dX6_value_148 rfl rfl ?_
    refine z_get (q0 := 36) (k9 := 0) (v := .ref (a 37)) b (kw_36 cy a rw S) rfl in_X6 (by decide) wf_X6_11 rfl dX6_value_149 ?_
    refine z_iconst (v := 0) b dX6_value_152 (by decide) ?_
    refine y_iald (q0 := 37) (j := 0) (v := ((ar S.1 16) 0)) b (kw_37 cy a rw S) (by decide) rfl dX6_value_153 ?_
    refine z_goto (tgt := 158) b dX6_value_154 (by decide) ?_
    refine z_lv0 (lv' := []) [] rfl ?_
    exact z_X6_value_B158 hrw b _ _ h

def w_X6_value (cy : Nat → ClassId) (tE : Nat) (S : KS) (p0 : Nat) (post : Int32 → KS → Prop) : Prop :=
  ∃ n, lpn (w_X6_value_F4 cy tE post (w_X6_value_B144 cy tE post)) (fun _ _ _ _ => False) n S p0 0 0

set_option maxHeartbeats 4000000 in
set_option maxRecDepth 100000 in
theorem k_X6_value {l : Launch} {D : va_G} {cy : Nat → ClassId} {T0 tB tE : Nat} {a : Nat → Nat} {rw : Nat → Option Nat} (hrw : ∀ i, i < 6 → rw i = some (a (12 + 2 * i))) (S : KS) (p0 : Nat) (post : Int32 → KS → Prop) (h : w_X6_value cy tE S p0 post) : Ct l D cy T0 tB tE yX6_value cX6_value 6 (some .int) 2 47 0 0 (kw cy a rw S) [.ref (a 36), .ref p0] (QI D (U := KS) post (kw cy a rw)) := by
  refine Ct.ofZ RX6 "value" [(0, .ref (a 36)), (1, .ref p0)] rfl rfl rfl rfl (Nat.le_of_ble_eq_true rfl) ?_
  intro p e R s m args below meth c A b
  unfold w_X6_value at h
  refine z_iconst (v := 0) b dX6_value_0 (by decide) ?_
  refine z_istore_n (lv' := [(2, .int 0), (0, .ref (a 36)), (1, .ref p0)]) b dX6_value_1 rfl (by decide) rfl ?_
  refine z_iconst (v := 0) b dX6_value_2 (by decide) ?_
  refine z_istore_n (lv' := [(3, .int 0), (2, .int 0), (0, .ref (a 36)), (1, .ref p0)]) b dX6_value_3 rfl (by decide) rfl ?_
  refine z_lv0 (lv' := [(0, .ref (a 36)), (1, .ref p0), (2, .int 0), (3, .int 0)]) [2, 3, 1, 0] rfl ?_
  obtain ⟨n, h⟩ := h
  exact zl_X6_value_L4 hrw b (fun S x2 h => z_X6_value_B144 hrw b _ _ h) n _ _ _ _ h

def w_X9_change_B179 (cy : Nat → ClassId) (tE : Nat) (post : KS → Prop) (S : KS)  : Prop :=
  post S

set_option maxHeartbeats 4000000 in
set_option maxRecDepth 100000 in
theorem z_X9_change_B179 {p : Program} {l : Launch} {e : Env} {R : Room} {s : State} {m : MethodId} {args : Array Value} {below : List Frame} {meth : Method} {c : Code} {D : va_G} {cy : Nat → ClassId} {T0 tB tE : Nat} {A : Nat → Prop} {a : Nat → Nat} {rw : Nat → Option Nat} (hrw : ∀ i, i < 6 → rw i = some (a (12 + 2 * i))) {post : KS → Prop} (b : Bz p R s m args meth c D cy T0 tB tE A 7 cX9_change RX9 none "change" 1 22 0 0) (S : KS)  (h : w_X9_change_B179 cy tE post S ) : Z p l e R s m args below meth c D A 7 (MQ below (QV D (U := KS) post (kw cy a rw) A) args s 0 0 A) 0 0 (kw cy a rw S) [] 179 [] := by
  unfold w_X9_change_B179 at h
  exact z_vret (u := S) b rfl dX9_change_179 h rfl (by decide) (by decide)

def w_X9_change_B164 (cy : Nat → ClassId) (tE : Nat) (post : KS → Prop) (S : KS) (x0 : Nat) (x5 : Int32) : Prop :=
  (x0 < 5) ∧ w_X9_get cy tE S x0 50 (fun r17 S18 => (x0 < 5) ∧ w_X9_set cy tE S18 x0 50 (r17 + x5) (fun S21 => w_X9_change_B179 cy tE post S21))

set_option maxHeartbeats 4000000 in
set_option maxRecDepth 100000 in
theorem z_X9_change_B164 {p : Program} {l : Launch} {e : Env} {R : Room} {s : State} {m : MethodId} {args : Array Value} {below : List Frame} {meth : Method} {c : Code} {D : va_G} {cy : Nat → ClassId} {T0 tB tE : Nat} {A : Nat → Prop} {a : Nat → Nat} {rw : Nat → Option Nat} (hrw : ∀ i, i < 6 → rw i = some (a (12 + 2 * i))) {post : KS → Prop} (b : Bz p R s m args meth c D cy T0 tB tE A 7 cX9_change RX9 none "change" 1 22 0 0) (S : KS) (x0 : Nat) (x5 : Int32) (h : w_X9_change_B164 cy tE post S x0 x5) : Z p l e R s m args below meth c D A 7 (MQ below (QV D (U := KS) post (kw cy a rw) A) args s 0 0 A) 0 0 (kw cy a rw S) [(0, .ref (a (2 + 2 * x0))), (5, .int x5)] 164 [] := by
  unfold w_X9_change_B164 at h
  refine z_aload_n b dX9_change_164 rfl rfl ?_
  refine z_bipush (v := 50) b dX9_change_165 (by decide) ?_
  refine z_aload_n b dX9_change_167 rfl rfl ?_
  refine z_bipush (v := 50) b dX9_change_168 (by decide) ?_
  obtain ⟨g16, h⟩ := h
  refine z_calli b (z_runV (q0 := 2 + 2 * x0) (As := [.int 50]) (st := [.int 50, .ref (a (2 + 2 * x0))]) b (k_X9_get hrw S x0 50 _ h) cf_X9_get (kw_so cy a rw S g16) rfl wm_X9_32 wi_X9_get ws_X9_get dX9_change_170 rfl (Nat.le_of_ble_eq_true rfl) ⟨by decide, by decide, Nat.le_of_ble_eq_true rfl, Nat.le_of_ble_eq_true rfl⟩) (fun r17 S18 h => ?_)
  refine z_iload b dX9_change_173 rfl ?_
  refine z_iadd b dX9_change_175 rfl ?_
  obtain ⟨g19, h⟩ := h
  refine z_callv b (z_runV (q0 := 2 + 2 * x0) (As := [.int 50, .int (r17 + x5)]) (st := []) b (k_X9_set hrw S18 x0 50 (r17 + x5) _ h) cf_X9_set (kw_so cy a rw S18 g19) rfl wm_X9_36 wi_X9_set ws_X9_set dX9_change_176 rfl (Nat.le_of_ble_eq_true rfl) ⟨by decide, by decide, Nat.le_of_ble_eq_true rfl, Nat.le_of_ble_eq_true rfl⟩) (fun S21 h => ?_)
  refine z_lv0 (lv' := []) [] rfl ?_
  exact z_X9_change_B179 hrw b _ h

def w_X9_change_B145 (cy : Nat → ClassId) (tE : Nat) (post : KS → Prop) (S : KS) (y0 : Int32) (y1 : Int32) (y2 : Nat) : Prop :=
  (y2 < 5) ∧ w_X9_set cy tE S y2 y1 y0 (fun S27 => w_X9_change_B179 cy tE post S27)

set_option maxHeartbeats 4000000 in
set_option maxRecDepth 100000 in
theorem z_X9_change_B145 {p : Program} {l : Launch} {e : Env} {R : Room} {s : State} {m : MethodId} {args : Array Value} {below : List Frame} {meth : Method} {c : Code} {D : va_G} {cy : Nat → ClassId} {T0 tB tE : Nat} {A : Nat → Prop} {a : Nat → Nat} {rw : Nat → Option Nat} (hrw : ∀ i, i < 6 → rw i = some (a (12 + 2 * i))) {post : KS → Prop} (b : Bz p R s m args meth c D cy T0 tB tE A 7 cX9_change RX9 none "change" 1 22 0 0) (S : KS) (y0 : Int32) (y1 : Int32) (y2 : Nat) (h : w_X9_change_B145 cy tE post S y0 y1 y2) : Z p l e R s m args below meth c D A 7 (MQ below (QV D (U := KS) post (kw cy a rw) A) args s 0 0 A) 0 0 (kw cy a rw S) [] 145 [.int y0, .int y1, .ref (a (2 + 2 * y2))] := by
  unfold w_X9_change_B145 at h
  obtain ⟨g25, h⟩ := h
  refine z_callv b (z_runV (q0 := 2 + 2 * y2) (As := [.int y1, .int y0]) (st := []) b (k_X9_set hrw S y2 y1 y0 _ h) cf_X9_set (kw_so cy a rw S g25) rfl wm_X9_36 wi_X9_set ws_X9_set dX9_change_145 rfl (Nat.le_of_ble_eq_true rfl) ⟨by decide, by decide, Nat.le_of_ble_eq_true rfl, Nat.le_of_ble_eq_true rfl⟩) (fun S27 h => ?_)
  refine z_goto (tgt := 179) b dX9_change_148 (by decide) ?_
  exact z_X9_change_B179 hrw b _ h

def w_X9_change_B122 (cy : Nat → ClassId) (tE : Nat) (post : KS → Prop) (S : KS) (x0 : Nat) (x1 : Int32) (x2 : Int32) (x3 : Int32) (y0 : Int32) (y1 : Int32) (y2 : Nat) : Prop :=
  (y2 < 5) ∧ w_X9_set cy tE S y2 y1 y0 (fun S24 => ((x1.toInt ≠ 11 → w_X9_change_B145 cy tE post S24 0 (((20 : Int32) + ((3 : Int32) * x3)) + x2) x0) ∧ (x1.toInt = 11 → w_X9_change_B145 cy tE post S24 1 (((20 : Int32) + ((3 : Int32) * x3)) + x2) x0)))

set_option maxHeartbeats 4000000 in
set_option maxRecDepth 100000 in
theorem z_X9_change_B122 {p : Program} {l : Launch} {e : Env} {R : Room} {s : State} {m : MethodId} {args : Array Value} {below : List Frame} {meth : Method} {c : Code} {D : va_G} {cy : Nat → ClassId} {T0 tB tE : Nat} {A : Nat → Prop} {a : Nat → Nat} {rw : Nat → Option Nat} (hrw : ∀ i, i < 6 → rw i = some (a (12 + 2 * i))) {post : KS → Prop} (b : Bz p R s m args meth c D cy T0 tB tE A 7 cX9_change RX9 none "change" 1 22 0 0) (S : KS) (x0 : Nat) (x1 : Int32) (x2 : Int32) (x3 : Int32) (y0 : Int32) (y1 : Int32) (y2 : Nat) (h : w_X9_change_B122 cy tE post S x0 x1 x2 x3 y0 y1 y2) : Z p l e R s m args below meth c D A 7 (MQ below (QV D (U := KS) post (kw cy a rw) A) args s 0 0 A) 0 0 (kw cy a rw S) [(0, .ref (a (2 + 2 * x0))), (1, .int x1), (2, .int x2), (3, .int x3)] 122 [.int y0, .int y1, .ref (a (2 + 2 * y2))] := by
  unfold w_X9_change_B122 at h
  obtain ⟨g22, h⟩ := h
  refine z_callv b (z_runV (q0 := 2 + 2 * y2) (As := [.int y1, .int y0]) (st := []) b (k_X9_set hrw S y2 y1 y0 _ h) cf_X9_set (kw_so cy a rw S g22) rfl wm_X9_36 wi_X9_set ws_X9_set dX9_change_122 rfl (Nat.le_of_ble_eq_true rfl) ⟨by decide, by decide, Nat.le_of_ble_eq_true rfl, Nat.le_of_ble_eq_true rfl⟩) (fun S24 h => ?_)
  refine z_aload_n b dX9_change_125 rfl rfl ?_
  refine z_bipush (v := 20) b dX9_change_126 (by decide) ?_
  refine z_iconst (v := 3) b dX9_change_128 (by decide) ?_
  refine z_iload_n b dX9_change_129 rfl rfl ?_
  refine z_imul b dX9_change_130 rfl ?_
  refine z_iadd b dX9_change_131 rfl ?_
  refine z_iload_n b dX9_change_132 rfl rfl ?_
  refine z_iadd b dX9_change_133 rfl ?_
  refine z_iload_n b dX9_change_134 rfl rfl ?_
  refine z_bipush (v := 11) b dX9_change_135 (by decide) ?_
  refine y_icmp_ne (tgt := 144) (xl := x1.toInt) (yl := 11) b rfl (by decide) dX9_change_137 (by decide) (fun c1 => ?_) (fun c1 => ?_)
  · replace h := h.1 c1
    refine z_iconst (v := 0) b dX9_change_144 (by decide) ?_
    refine z_lv0 (lv' := []) [] rfl ?_
    exact z_X9_change_B145 hrw b _ _ _ _ h
  · replace h := h.2 c1
    refine z_iconst (v := 1) b dX9_change_140 (by decide) ?_
    refine z_goto (tgt := 145) b dX9_change_141 (by decide) ?_
    refine z_lv0 (lv' := []) [] rfl ?_
    exact z_X9_change_B145 hrw b _ _ _ _ h

def w_X9_change_B105 (cy : Nat → ClassId) (tE : Nat) (post : KS → Prop) (S : KS) (x0 : Nat) (x1 : Int32) (x2 : Int32) (x3 : Int32) (x6 : Int32) : Prop :=
  ((x1.toInt ≠ 11 → w_X9_change_B122 cy tE post S x0 x1 x2 x3 0 ((20 : Int32) + x6) x0) ∧ (x1.toInt = 11 → w_X9_change_B122 cy tE post S x0 x1 x2 x3 1 ((20 : Int32) + x6) x0))

set_option maxHeartbeats 4000000 in
set_option maxRecDepth 100000 in
theorem z_X9_change_B105 {p : Program} {l : Launch} {e : Env} {R : Room} {s : State} {m : MethodId} {args : Array Value} {below : List Frame} {meth : Method} {c : Code} {D : va_G} {cy : Nat → ClassId} {T0 tB tE : Nat} {A : Nat → Prop} {a : Nat → Nat} {rw : Nat → Option Nat} (hrw : ∀ i, i < 6 → rw i = some (a (12 + 2 * i))) {post : KS → Prop} (b : Bz p R s m args meth c D cy T0 tB tE A 7 cX9_change RX9 none "change" 1 22 0 0) (S : KS) (x0 : Nat) (x1 : Int32) (x2 : Int32) (x3 : Int32) (x6 : Int32) (h : w_X9_change_B105 cy tE post S x0 x1 x2 x3 x6) : Z p l e R s m args below meth c D A 7 (MQ below (QV D (U := KS) post (kw cy a rw) A) args s 0 0 A) 0 0 (kw cy a rw S) [(0, .ref (a (2 + 2 * x0))), (1, .int x1), (2, .int x2), (3, .int x3), (6, .int x6)] 105 [] := by
  unfold w_X9_change_B105 at h
  refine z_aload_n b dX9_change_105 rfl rfl ?_
  refine z_bipush (v := 20) b dX9_change_106 (by decide) ?_
  refine z_iload b dX9_change_108 rfl ?_
  refine z_iadd b dX9_change_110 rfl ?_
  refine z_iload_n b dX9_change_111 rfl rfl ?_
  refine z_bipush (v := 11) b dX9_change_112 (by decide) ?_
  refine y_icmp_ne (tgt := 121) (xl := x1.toInt) (yl := 11) b rfl (by decide) dX9_change_114 (by decide) (fun c1 => ?_) (fun c1 => ?_)
  · replace h := h.1 c1
    refine z_iconst (v := 0) b dX9_change_121 (by decide) ?_
    refine z_lv0 (lv' := [(0, .ref (a (2 + 2 * x0))), (1, .int x1), (2, .int x2), (3, .int x3)]) [0, 1, 2, 3] rfl ?_
    exact z_X9_change_B122 hrw b _ _ _ _ _ _ _ _ h
  · replace h := h.2 c1
    refine z_iconst (v := 1) b dX9_change_117 (by decide) ?_
    refine z_goto (tgt := 122) b dX9_change_118 (by decide) ?_
    refine z_lv0 (lv' := [(0, .ref (a (2 + 2 * x0))), (1, .int x1), (2, .int x2), (3, .int x3)]) [0, 1, 2, 3] rfl ?_
    exact z_X9_change_B122 hrw b _ _ _ _ _ _ _ _ h

def w_X9_change (cy : Nat → ClassId) (tE : Nat) (S : KS) (p9 : Nat) (p0 : Int32) (p1 : Int32) (p2 : Int32) (p3 : Int32) (p4 : Int32) (post : KS → Prop) : Prop :=
  ((p0.toInt = 7 → (p9 < 5) ∧ w_X9_get cy tE S p9 p1 (fun r2 S3 => (p9 < 5) ∧ w_X9_set cy tE S3 p9 p1 (r2 + p4) (fun S6 => w_X9_change_B179 cy tE post S6))) ∧ (p0.toInt = 8 → (p9 < 5) ∧ w_X9_get cy tE S p9 ((10 : Int32) + (((3 : Int32) * p1) + p2)) (fun r8 S9 => (p9 < 5) ∧ w_X9_set cy tE S9 p9 ((10 : Int32) + (((3 : Int32) * p1) + p2)) (r8 + p4) (fun S12 => w_X9_change_B179 cy tE post S12))) ∧ (p0.toInt = 9 → (p9 < 5) ∧ w_X9_set cy tE S p9 ((40 : Int32) + p3) p1 (fun S15 => w_X9_change_B179 cy tE post S15)) ∧ (p0.toInt = 10 → w_X9_change_B164 cy tE post S p9 p4) ∧ (p0.toInt = 11 → w_X9_change_B105 cy tE post S p9 p0 p1 p2 (((3 : Int32) * p1) + p2)) ∧ (p0.toInt = 12 → w_X9_change_B105 cy tE post S p9 p0 p1 p2 (((3 : Int32) * p1) + p2)) ∧ (p0.toInt = 13 → (p9 < 5) ∧ w_X9_set cy tE S p9 ((30 : Int32) + (((3 : Int32) * p1) + p2)) 1 (fun S30 => w_X9_change_B179 cy tE post S30)) ∧ (p0.toInt ≠ 7 ∧ p0.toInt ≠ 8 ∧ p0.toInt ≠ 9 ∧ p0.toInt ≠ 10 ∧ p0.toInt ≠ 11 ∧ p0.toInt ≠ 12 ∧ p0.toInt ≠ 13 → w_X9_change_B164 cy tE post S p9 p4))

set_option maxHeartbeats 4000000 in
set_option maxRecDepth 100000 in
theorem k_X9_change {l : Launch} {D : va_G} {cy : Nat → ClassId} {T0 tB tE : Nat} {a : Nat → Nat} {rw : Nat → Option Nat} (hrw : ∀ i, i < 6 → rw i = some (a (12 + 2 * i))) (S : KS) (p9 : Nat) (p0 : Int32) (p1 : Int32) (p2 : Int32) (p3 : Int32) (p4 : Int32) (post : KS → Prop) (h : w_X9_change cy tE S p9 p0 p1 p2 p3 p4 post) : Ct l D cy T0 tB tE yX9_change cX9_change 7 none 1 22 0 0 (kw cy a rw S) [.ref (a (2 + 2 * p9)), .int p0, .int p1, .int p2, .int p3, .int p4] (QV D (U := KS) post (kw cy a rw)) := by
  refine Ct.ofZ RX9 "change" [(0, .ref (a (2 + 2 * p9))), (1, .int p0), (2, .int p1), (3, .int p2), (4, .int p3), (5, .int p4)] rfl rfl rfl rfl (Nat.le_of_ble_eq_true rfl) ?_
  intro p e R s m args below meth c A b
  unfold w_X9_change at h
  refine z_iconst (v := 3) b dX9_change_0 (by decide) ?_
  refine z_iload_n b dX9_change_1 rfl rfl ?_
  refine z_imul b dX9_change_2 rfl ?_
  refine z_iload_n b dX9_change_3 rfl rfl ?_
  refine z_iadd b dX9_change_4 rfl ?_
  refine z_istore (lv' := [(6, .int (((3 : Int32) * p1) + p2)), (0, .ref (a (2 + 2 * p9))), (1, .int p0), (2, .int p1), (3, .int p2), (4, .int p3), (5, .int p4)]) b dX9_change_5 (by decide) rfl ?_
  refine z_iload_n b dX9_change_7 rfl rfl ?_
  by_cases e1 : p0.toInt = 7
  · replace h := h.1 e1
    refine z_eqi (y := 7) (y_eqc e1 (by decide)) ?_
    refine z_tableIn (tgt := 52) (off := 44) b dX9_change_8 (by decide) (by decide) (by decide) (by decide) ?_
    refine z_aload_n b dX9_change_52 rfl rfl ?_
    refine z_iload_n b dX9_change_53 rfl rfl ?_
    refine z_aload_n b dX9_change_54 rfl rfl ?_
    refine z_iload_n b dX9_change_55 rfl rfl ?_
    obtain ⟨g1, h⟩ := h
    refine z_calli b (z_runV (q0 := 2 + 2 * p9) (As := [.int p1]) (st := [.int p1, .ref (a (2 + 2 * p9))]) b (k_X9_get hrw S p9 p1 _ h) cf_X9_get (kw_so cy a rw S g1) rfl wm_X9_32 wi_X9_get ws_X9_get dX9_change_56 rfl (Nat.le_of_ble_eq_true rfl) ⟨by decide, by decide, Nat.le_of_ble_eq_true rfl, Nat.le_of_ble_eq_true rfl⟩) (fun r2 S3 h => ?_)
    refine z_iload b dX9_change_59 rfl ?_
    refine z_iadd b dX9_change_61 rfl ?_
    obtain ⟨g4, h⟩ := h
    refine z_callv b (z_runV (q0 := 2 + 2 * p9) (As := [.int p1, .int (r2 + p4)]) (st := []) b (k_X9_set hrw S3 p9 p1 (r2 + p4) _ h) cf_X9_set (kw_so cy a rw S3 g4) rfl wm_X9_36 wi_X9_set ws_X9_set dX9_change_62 rfl (Nat.le_of_ble_eq_true rfl) ⟨by decide, by decide, Nat.le_of_ble_eq_true rfl, Nat.le_of_ble_eq_true rfl⟩) (fun S6 h => ?_)
    refine z_goto (tgt := 179) b dX9_change_65 (by decide) ?_
    refine z_lv0 (lv' := []) [] rfl ?_
    exact z_X9_change_B179 hrw b _ h
  replace h := h.2
  have o0 := e1
  by_cases e1 : p0.toInt = 8
  · replace h := h.1 e1
    refine z_eqi (y := 8) (y_eqc e1 (by decide)) ?_
    refine z_tableIn (tgt := 68) (off := 60) b dX9_change_8 (by decide) (by decide) (by decide) (by decide) ?_
    refine z_aload_n b dX9_change_68 rfl rfl ?_
    refine z_bipush (v := 10) b dX9_change_69 (by decide) ?_
    refine z_iload b dX9_change_71 rfl ?_
    refine z_iadd b dX9_change_73 rfl ?_
    refine z_aload_n b dX9_change_74 rfl rfl ?_
    refine z_bipush (v := 10) b dX9_change_75 (by decide) ?_
    refine z_iload b dX9_change_77 rfl ?_
    refine z_iadd b dX9_change_79 rfl ?_
    obtain ⟨g7, h⟩ := h
    refine z_calli b (z_runV (q0 := 2 + 2 * p9) (As := [.int ((10 : Int32) + (((3 : Int32) * p1) + p2))]) (st := [.int ((10 : Int32) + (((3 : Int32) * p1) + p2)), .ref (a (2 + 2 * p9))]) b (k_X9_get hrw S p9 ((10 : Int32) + (((3 : Int32) * p1) + p2)) _ h) cf_X9_get (kw_so cy a rw S g7) rfl wm_X9_32 wi_X9_get ws_X9_get dX9_change_80 rfl (Nat.le_of_ble_eq_true rfl) ⟨by decide, by decide, Nat.le_of_ble_eq_true rfl, Nat.le_of_ble_eq_true rfl⟩) (fun r8 S9 h => ?_)
    refine z_iload b dX9_change_83 rfl ?_
    refine z_iadd b dX9_change_85 rfl ?_
    obtain ⟨g10, h⟩ := h
    refine z_callv b (z_runV (q0 := 2 + 2 * p9) (As := [.int ((10 : Int32) + (((3 : Int32) * p1) + p2)), .int (r8 + p4)]) (st := []) b (k_X9_set hrw S9 p9 ((10 : Int32) + (((3 : Int32) * p1) + p2)) (r8 + p4) _ h) cf_X9_set (kw_so cy a rw S9 g10) rfl wm_X9_36 wi_X9_set ws_X9_set dX9_change_86 rfl (Nat.le_of_ble_eq_true rfl) ⟨by decide, by decide, Nat.le_of_ble_eq_true rfl, Nat.le_of_ble_eq_true rfl⟩) (fun S12 h => ?_)
    refine z_goto (tgt := 179) b dX9_change_89 (by decide) ?_
    refine z_lv0 (lv' := []) [] rfl ?_
    exact z_X9_change_B179 hrw b _ h
  replace h := h.2
  have o1 := e1
  by_cases e1 : p0.toInt = 9
  · replace h := h.1 e1
    refine z_eqi (y := 9) (y_eqc e1 (by decide)) ?_
    refine z_tableIn (tgt := 92) (off := 84) b dX9_change_8 (by decide) (by decide) (by decide) (by decide) ?_
    refine z_aload_n b dX9_change_92 rfl rfl ?_
    refine z_bipush (v := 40) b dX9_change_93 (by decide) ?_
    refine z_iload b dX9_change_95 rfl ?_
    refine z_iadd b dX9_change_97 rfl ?_
    refine z_iload_n b dX9_change_98 rfl rfl ?_
    obtain ⟨g13, h⟩ := h
    refine z_callv b (z_runV (q0 := 2 + 2 * p9) (As := [.int ((40 : Int32) + p3), .int p1]) (st := []) b (k_X9_set hrw S p9 ((40 : Int32) + p3) p1 _ h) cf_X9_set (kw_so cy a rw S g13) rfl wm_X9_36 wi_X9_set ws_X9_set dX9_change_99 rfl (Nat.le_of_ble_eq_true rfl) ⟨by decide, by decide, Nat.le_of_ble_eq_true rfl, Nat.le_of_ble_eq_true rfl⟩) (fun S15 h => ?_)
    refine z_goto (tgt := 179) b dX9_change_102 (by decide) ?_
    refine z_lv0 (lv' := []) [] rfl ?_
    exact z_X9_change_B179 hrw b _ h
  replace h := h.2
  have o2 := e1
  by_cases e1 : p0.toInt = 10
  · replace h := h.1 e1
    refine z_eqi (y := 10) (y_eqc e1 (by decide)) ?_
    refine z_tableIn (tgt := 164) (off := 156) b dX9_change_8 (by decide) (by decide) (by decide) (by decide) ?_
    refine z_lv0 (lv' := [(0, .ref (a (2 + 2 * p9))), (5, .int p4)]) [1, 6] rfl ?_
    exact z_X9_change_B164 hrw b _ _ _ h
  replace h := h.2
  have o3 := e1
  by_cases e1 : p0.toInt = 11
  · replace h := h.1 e1
    refine z_eqi (y := 11) (y_eqc e1 (by decide)) ?_
    refine z_tableIn (tgt := 105) (off := 97) b dX9_change_8 (by decide) (by decide) (by decide) (by decide) ?_
    refine z_lv0 (lv' := [(0, .ref (a (2 + 2 * p9))), (1, .int p0), (2, .int p1), (3, .int p2), (6, .int (((3 : Int32) * p1) + p2))]) [1, 2, 3, 4, 0] rfl ?_
    exact z_X9_change_B105 hrw b _ _ _ _ _ _ h
  replace h := h.2
  have o4 := e1
  by_cases e1 : p0.toInt = 12
  · replace h := h.1 e1
    refine z_eqi (y := 12) (y_eqc e1 (by decide)) ?_
    refine z_tableIn (tgt := 105) (off := 97) b dX9_change_8 (by decide) (by decide) (by decide) (by decide) ?_
    refine z_lv0 (lv' := [(0, .ref (a (2 + 2 * p9))), (1, .int p0), (2, .int p1), (3, .int p2), (6, .int (((3 : Int32) * p1) + p2))]) [1, 2, 3, 4, 0] rfl ?_
    exact z_X9_change_B105 hrw b _ _ _ _ _ _ h
  replace h := h.2
  have o5 := e1
  by_cases e1 : p0.toInt = 13
  · replace h := h.1 e1
    refine z_eqi (y := 13) (y_eqc e1 (by decide)) ?_
    refine z_tableIn (tgt := 151) (off := 143) b dX9_change_8 (by decide) (by decide) (by decide) (by decide) ?_
    refine z_aload_n b dX9_change_151 rfl rfl ?_
    refine z_bipush (v := 30) b dX9_change_152 (by decide) ?_
    refine z_iload b dX9_change_154 rfl ?_
    refine z_iadd b dX9_change_156 rfl ?_
    refine z_iconst (v := 1) b dX9_change_157 (by decide) ?_
    obtain ⟨g28, h⟩ := h
    refine z_callv b (z_runV (q0 := 2 + 2 * p9) (As := [.int ((30 : Int32) + (((3 : Int32) * p1) + p2)), .int 1]) (st := []) b (k_X9_set hrw S p9 ((30 : Int32) + (((3 : Int32) * p1) + p2)) 1 _ h) cf_X9_set (kw_so cy a rw S g28) rfl wm_X9_36 wi_X9_set ws_X9_set dX9_change_158 rfl (Nat.le_of_ble_eq_true rfl) ⟨by decide, by decide, Nat.le_of_ble_eq_true rfl, Nat.le_of_ble_eq_true rfl⟩) (fun S30 h => ?_)
    refine z_goto (tgt := 179) b dX9_change_161 (by decide) ?_
    refine z_lv0 (lv' := []) [] rfl ?_
    exact z_X9_change_B179 hrw b _ h
  replace h := h.2
  have o6 := e1
  replace h := h ⟨o0, o1, o2, o3, o4, o5, o6⟩
  refine z_tableOut (tgt := 164) b dX9_change_8 (by omega) (by decide) ?_
  refine z_lv0 (lv' := [(0, .ref (a (2 + 2 * p9))), (5, .int p4)]) [1, 6] rfl ?_
  exact z_X9_change_B164 hrw b _ _ _ h

def w_X9_isInBounds_F2 (cy : Nat → ClassId) (tE : Nat) (post : Int32 → KS → Prop) (k29 : KS → Nat → Prop) (k2 : KS → Nat → Int32 → Prop) (S : KS) (x0 : Nat) (x1 : Int32) : Prop :=
  ((3 ≤ x1.toInt → k29 S x0) ∧ (x1.toInt < 3 → (x0 < 5) ∧ (x0 < 5) ∧ (0 ≤ x1.toInt ∧ x1.toInt < 51) ∧ w_X11_isWithin cy tE S ((ar S.1 (1 + x0)) x1.toNatClampNeg) 15 (fun r4 S5 => ((r4.toInt ≠ 0 → k2 S5 x0 (x1 + 1)) ∧ (r4.toInt = 0 → post 0 S5)))))

set_option maxHeartbeats 4000000 in
set_option maxRecDepth 100000 in
theorem z_X9_isInBounds_F2 {p : Program} {l : Launch} {e : Env} {R : Room} {s : State} {m : MethodId} {args : Array Value} {below : List Frame} {meth : Method} {c : Code} {D : va_G} {cy : Nat → ClassId} {T0 tB tE : Nat} {A : Nat → Prop} {a : Nat → Nat} {rw : Nat → Option Nat} (hrw : ∀ i, i < 6 → rw i = some (a (12 + 2 * i))) {post : Int32 → KS → Prop} {k29 : KS → Nat → Prop} {k2 : KS → Nat → Int32 → Prop} (b : Bz p R s m args meth c D cy T0 tB tE A 2 cX9_isInBounds RX9 (some .boolean) "isInBounds" 1 21 0 0) (hk29 : ∀ (S : KS) (x0 : Nat), k29 S x0 → Z p l e R s m args below meth c D A 2 (MQ below (QI D (U := KS) post (kw cy a rw) A) args s 0 0 A) 0 0 (kw cy a rw S) [(0, .ref (a (2 + 2 * x0)))] 29 []) (hk2 : ∀ (S : KS) (x0 : Nat) (x1 : Int32), k2 S x0 x1 → Z p l e R s m args below meth c D A 2 (MQ below (QI D (U := KS) post (kw cy a rw) A) args s 0 0 A) 0 0 (kw cy a rw S) [(0, .ref (a (2 + 2 * x0))), (1, .int x1)] 2 []) (S : KS) (x0 : Nat) (x1 : Int32) (h : w_X9_isInBounds_F2 cy tE post k29 k2 S x0 x1) : Z p l e R s m args below meth c D A 2 (MQ below (QI D (U := KS) post (kw cy a rw) A) args s 0 0 A) 0 0 (kw cy a rw S) [(0, .ref (a (2 + 2 * x0))), (1, .int x1)] 2 [] := by
  unfold w_X9_isInBounds_F2 at h
  refine z_iload_n b dX9_isInBounds_2 rfl rfl ?_
  refine z_iconst (v := 3) b dX9_isInBounds_3 (by decide) ?_
  refine y_icmp_ge (tgt := 29) (xl := x1.toInt) (yl := 3) b rfl (by decide) dX9_isInBounds_4 (by decide) (fun c1 => ?_) (fun c1 => ?_)
  · replace h := h.1 c1
    refine z_lv0 (lv' := [(0, .ref (a (2 + 2 * x0)))]) [0] rfl ?_
    exact hk29 _ _ h
  · replace h := h.2 c1
    refine z_aload_n b dX9_isInBounds_7 rfl rfl ?_
    obtain ⟨g1, h⟩ := h
    refine z_get (q0 := 2 + 2 * x0) (k9 := 0) (v := .ref (a (3 + 2 * x0))) b (kw_so cy a rw S g1) rfl in_X9 (by decide) wf_X9_11 rfl dX9_isInBounds_8 ?_
    refine z_iload_n b dX9_isInBounds_11 rfl rfl ?_
    obtain ⟨g2, h⟩ := h
    obtain ⟨g3, h⟩ := h
    refine y_iald (q0 := 3 + 2 * x0) (j := x1.toNatClampNeg) (v := ((ar S.1 (1 + x0)) x1.toNatClampNeg)) b (kw_sr cy a rw S g2) (zx_r g3.1 g3.2) rfl dX9_isInBounds_12 ?_
    refine z_bipush (v := 15) b dX9_isInBounds_13 (by decide) ?_
    refine z_calli b (z_runSN (As := [.int ((ar S.1 (1 + x0)) x1.toNatClampNeg), .int 15]) (st := []) b (k_X11_isWithin hrw S ((ar S.1 (1 + x0)) x1.toNatClampNeg) 15 _ h) cf_X11_isWithin (nw_X9_42) ws_X11_isWithin dX9_isInBounds_15 rfl (Nat.le_of_ble_eq_true rfl) ⟨by decide, by decide, Nat.le_of_ble_eq_true rfl, Nat.le_of_ble_eq_true rfl⟩) (fun r4 S5 h => ?_)
    refine y_if_ne (tgt := 23) (xl := r4.toInt) b rfl dX9_isInBounds_18 (by decide) (fun c1 => ?_) (fun c1 => ?_)
    · replace h := h.1 c1
      refine z_iinc (k9 := 1) (v := (x1 + 1)) (lv' := [(1, .int (x1 + 1)), (0, .ref (a (2 + 2 * x0)))]) b dX9_isInBounds_23 rfl rfl (by decide) rfl ?_
      refine z_goto (tgt := 2) b dX9_isInBounds_26 (by decide) ?_
      refine z_lv0 (lv' := [(0, .ref (a (2 + 2 * x0))), (1, .int (x1 + 1))]) [1, 0] rfl ?_
      exact hk2 _ _ _ h
    · replace h := h.2 c1
      refine z_iconst (v := 0) b dX9_isInBounds_21 (by decide) ?_
      exact z_zret (u := S5) b rfl (by decide) dX9_isInBounds_22 h rfl (by decide) (by decide)

set_option maxHeartbeats 4000000 in
set_option maxRecDepth 100000 in
theorem zl_X9_isInBounds_L2 {p : Program} {l : Launch} {e : Env} {R : Room} {s : State} {m : MethodId} {args : Array Value} {below : List Frame} {meth : Method} {c : Code} {D : va_G} {cy : Nat → ClassId} {T0 tB tE : Nat} {A : Nat → Prop} {a : Nat → Nat} {rw : Nat → Option Nat} (hrw : ∀ i, i < 6 → rw i = some (a (12 + 2 * i))) {post : Int32 → KS → Prop} {k29 : KS → Nat → Prop} (b : Bz p R s m args meth c D cy T0 tB tE A 2 cX9_isInBounds RX9 (some .boolean) "isInBounds" 1 21 0 0) (hk29 : ∀ (S : KS) (x0 : Nat), k29 S x0 → Z p l e R s m args below meth c D A 2 (MQ below (QI D (U := KS) post (kw cy a rw) A) args s 0 0 A) 0 0 (kw cy a rw S) [(0, .ref (a (2 + 2 * x0)))] 29 []) : ∀ (n : Nat) (S : KS) (x0 : Nat) (x1 : Int32), lpn (w_X9_isInBounds_F2 cy tE post k29) (fun _ _ _ => False) n S x0 x1 → Z p l e R s m args below meth c D A 2 (MQ below (QI D (U := KS) post (kw cy a rw) A) args s 0 0 A) 0 0 (kw cy a rw S) [(0, .ref (a (2 + 2 * x0))), (1, .int x1)] 2 [] := by
  intro n
  induction n with
  | zero => intro _ _ _ h; exact h.elim
  | succ n ih => intro S x0 x1 h; exact z_X9_isInBounds_F2 hrw b hk29 ih S x0 x1 h

def w_X9_isInBounds_F31 (cy : Nat → ClassId) (tE : Nat) (post : Int32 → KS → Prop) (k62 : KS → Nat → Prop) (k31 : KS → Nat → Int32 → Prop) (S : KS) (x0 : Nat) (x1 : Int32) : Prop :=
  ((9 ≤ x1.toInt → k62 S x0) ∧ (x1.toInt < 9 → (x0 < 5) ∧ (x0 < 5) ∧ (0 ≤ ((10 : Int32) + x1).toInt ∧ ((10 : Int32) + x1).toInt < 51) ∧ w_X11_isWithin cy tE S ((ar S.1 (1 + x0)) ((10 : Int32) + x1).toNatClampNeg) 7 (fun r9 S10 => ((r9.toInt ≠ 0 → k31 S10 x0 (x1 + 1)) ∧ (r9.toInt = 0 → post 0 S10)))))

set_option maxHeartbeats 4000000 in
set_option maxRecDepth 100000 in
theorem z_X9_isInBounds_F31 {p : Program} {l : Launch} {e : Env} {R : Room} {s : State} {m : MethodId} {args : Array Value} {below : List Frame} {meth : Method} {c : Code} {D : va_G} {cy : Nat → ClassId} {T0 tB tE : Nat} {A : Nat → Prop} {a : Nat → Nat} {rw : Nat → Option Nat} (hrw : ∀ i, i < 6 → rw i = some (a (12 + 2 * i))) {post : Int32 → KS → Prop} {k62 : KS → Nat → Prop} {k31 : KS → Nat → Int32 → Prop} (b : Bz p R s m args meth c D cy T0 tB tE A 2 cX9_isInBounds RX9 (some .boolean) "isInBounds" 1 21 0 0) (hk62 : ∀ (S : KS) (x0 : Nat), k62 S x0 → Z p l e R s m args below meth c D A 2 (MQ below (QI D (U := KS) post (kw cy a rw) A) args s 0 0 A) 0 0 (kw cy a rw S) [(0, .ref (a (2 + 2 * x0)))] 62 []) (hk31 : ∀ (S : KS) (x0 : Nat) (x1 : Int32), k31 S x0 x1 → Z p l e R s m args below meth c D A 2 (MQ below (QI D (U := KS) post (kw cy a rw) A) args s 0 0 A) 0 0 (kw cy a rw S) [(0, .ref (a (2 + 2 * x0))), (1, .int x1)] 31 []) (S : KS) (x0 : Nat) (x1 : Int32) (h : w_X9_isInBounds_F31 cy tE post k62 k31 S x0 x1) : Z p l e R s m args below meth c D A 2 (MQ below (QI D (U := KS) post (kw cy a rw) A) args s 0 0 A) 0 0 (kw cy a rw S) [(0, .ref (a (2 + 2 * x0))), (1, .int x1)] 31 [] := by
  unfold w_X9_isInBounds_F31 at h
  refine z_iload_n b dX9_isInBounds_31 rfl rfl ?_
  refine z_bipush (v := 9) b dX9_isInBounds_32 (by decide) ?_
  refine y_icmp_ge (tgt := 62) (xl := x1.toInt) (yl := 9) b rfl (by decide) dX9_isInBounds_34 (by decide) (fun c1 => ?_) (fun c1 => ?_)
  · replace h := h.1 c1
    refine z_lv0 (lv' := [(0, .ref (a (2 + 2 * x0)))]) [0] rfl ?_
    exact hk62 _ _ h
  · replace h := h.2 c1
    refine z_aload_n b dX9_isInBounds_37 rfl rfl ?_
    obtain ⟨g6, h⟩ := h
    refine z_get (q0 := 2 + 2 * x0) (k9 := 0) (v := .ref (a (3 + 2 * x0))) b (kw_so cy a rw S g6) rfl in_X9 (by decide) wf_X9_11 rfl dX9_isInBounds_38 ?_
    refine z_bipush (v := 10) b dX9_isInBounds_41 (by decide) ?_
    refine z_iload_n b dX9_isInBounds_43 rfl rfl ?_
    refine z_iadd b dX9_isInBounds_44 rfl ?_
    obtain ⟨g7, h⟩ := h
    obtain ⟨g8, h⟩ := h
    refine y_iald (q0 := 3 + 2 * x0) (j := ((10 : Int32) + x1).toNatClampNeg) (v := ((ar S.1 (1 + x0)) ((10 : Int32) + x1).toNatClampNeg)) b (kw_sr cy a rw S g7) (zx_r g8.1 g8.2) rfl dX9_isInBounds_45 ?_
    refine z_bipush (v := 7) b dX9_isInBounds_46 (by decide) ?_
    refine z_calli b (z_runSN (As := [.int ((ar S.1 (1 + x0)) ((10 : Int32) + x1).toNatClampNeg), .int 7]) (st := []) b (k_X11_isWithin hrw S ((ar S.1 (1 + x0)) ((10 : Int32) + x1).toNatClampNeg) 7 _ h) cf_X11_isWithin (nw_X9_42) ws_X11_isWithin dX9_isInBounds_48 rfl (Nat.le_of_ble_eq_true rfl) ⟨by decide, by decide, Nat.le_of_ble_eq_true rfl, Nat.le_of_ble_eq_true rfl⟩) (fun r9 S10 h => ?_)
    refine y_if_ne (tgt := 56) (xl := r9.toInt) b rfl dX9_isInBounds_51 (by decide) (fun c1 => ?_) (fun c1 => ?_)
    · replace h := h.1 c1
      refine z_iinc (k9 := 1) (v := (x1 + 1)) (lv' := [(1, .int (x1 + 1)), (0, .ref (a (2 + 2 * x0)))]) b dX9_isInBounds_56 rfl rfl (by decide) rfl ?_
      refine z_goto (tgt := 31) b dX9_isInBounds_59 (by decide) ?_
      refine z_lv0 (lv' := [(0, .ref (a (2 + 2 * x0))), (1, .int (x1 + 1))]) [1, 0] rfl ?_
      exact hk31 _ _ _ h
    · replace h := h.2 c1
      refine z_iconst (v := 0) b dX9_isInBounds_54 (by decide) ?_
      exact z_zret (u := S10) b rfl (by decide) dX9_isInBounds_55 h rfl (by decide) (by decide)

set_option maxHeartbeats 4000000 in
set_option maxRecDepth 100000 in
theorem zl_X9_isInBounds_L31 {p : Program} {l : Launch} {e : Env} {R : Room} {s : State} {m : MethodId} {args : Array Value} {below : List Frame} {meth : Method} {c : Code} {D : va_G} {cy : Nat → ClassId} {T0 tB tE : Nat} {A : Nat → Prop} {a : Nat → Nat} {rw : Nat → Option Nat} (hrw : ∀ i, i < 6 → rw i = some (a (12 + 2 * i))) {post : Int32 → KS → Prop} {k62 : KS → Nat → Prop} (b : Bz p R s m args meth c D cy T0 tB tE A 2 cX9_isInBounds RX9 (some .boolean) "isInBounds" 1 21 0 0) (hk62 : ∀ (S : KS) (x0 : Nat), k62 S x0 → Z p l e R s m args below meth c D A 2 (MQ below (QI D (U := KS) post (kw cy a rw) A) args s 0 0 A) 0 0 (kw cy a rw S) [(0, .ref (a (2 + 2 * x0)))] 62 []) : ∀ (n : Nat) (S : KS) (x0 : Nat) (x1 : Int32), lpn (w_X9_isInBounds_F31 cy tE post k62) (fun _ _ _ => False) n S x0 x1 → Z p l e R s m args below meth c D A 2 (MQ below (QI D (U := KS) post (kw cy a rw) A) args s 0 0 A) 0 0 (kw cy a rw S) [(0, .ref (a (2 + 2 * x0))), (1, .int x1)] 31 [] := by
  intro n
  induction n with
  | zero => intro _ _ _ h; exact h.elim
  | succ n ih => intro S x0 x1 h; exact z_X9_isInBounds_F31 hrw b hk62 ih S x0 x1 h

def w_X9_isInBounds_B62 (cy : Nat → ClassId) (tE : Nat) (post : Int32 → KS → Prop) (S : KS) (x0 : Nat) : Prop :=
  (x0 < 5) ∧ (x0 < 5) ∧ w_X11_isWithin cy tE S ((ar S.1 (1 + x0)) 50) 15 (fun r13 S14 => (r13 = 0 ∨ r13 = 1) ∧ post r13 S14)

set_option maxHeartbeats 4000000 in
set_option maxRecDepth 100000 in
theorem z_X9_isInBounds_B62 {p : Program} {l : Launch} {e : Env} {R : Room} {s : State} {m : MethodId} {args : Array Value} {below : List Frame} {meth : Method} {c : Code} {D : va_G} {cy : Nat → ClassId} {T0 tB tE : Nat} {A : Nat → Prop} {a : Nat → Nat} {rw : Nat → Option Nat} (hrw : ∀ i, i < 6 → rw i = some (a (12 + 2 * i))) {post : Int32 → KS → Prop} (b : Bz p R s m args meth c D cy T0 tB tE A 2 cX9_isInBounds RX9 (some .boolean) "isInBounds" 1 21 0 0) (S : KS) (x0 : Nat) (h : w_X9_isInBounds_B62 cy tE post S x0) : Z p l e R s m args below meth c D A 2 (MQ below (QI D (U := KS) post (kw cy a rw) A) args s 0 0 A) 0 0 (kw cy a rw S) [(0, .ref (a (2 + 2 * x0)))] 62 [] := by
  unfold w_X9_isInBounds_B62 at h
  refine z_aload_n b dX9_isInBounds_62 rfl rfl ?_
  obtain ⟨g11, h⟩ := h
  refine z_get (q0 := 2 + 2 * x0) (k9 := 0) (v := .ref (a (3 + 2 * x0))) b (kw_so cy a rw S g11) rfl in_X9 (by decide) wf_X9_11 rfl dX9_isInBounds_63 ?_
  refine z_bipush (v := 50) b dX9_isInBounds_66 (by decide) ?_
  obtain ⟨g12, h⟩ := h
  refine y_iald (q0 := 3 + 2 * x0) (j := 50) (v := ((ar S.1 (1 + x0)) 50)) b (kw_sr cy a rw S g12) (by decide) rfl dX9_isInBounds_68 ?_
  refine z_bipush (v := 15) b dX9_isInBounds_69 (by decide) ?_
  refine z_calli b (z_runSN (As := [.int ((ar S.1 (1 + x0)) 50), .int 15]) (st := []) b (k_X11_isWithin hrw S ((ar S.1 (1 + x0)) 50) 15 _ h) cf_X11_isWithin (nw_X9_42) ws_X11_isWithin dX9_isInBounds_71 rfl (Nat.le_of_ble_eq_true rfl) ⟨by decide, by decide, Nat.le_of_ble_eq_true rfl, Nat.le_of_ble_eq_true rfl⟩) (fun r13 S14 h => ?_)
  obtain ⟨g15, h⟩ := h
  exact z_zret (u := S14) b rfl (z_bool g15) dX9_isInBounds_74 h rfl (by decide) (by decide)

def w_X9_isInBounds_B29 (cy : Nat → ClassId) (tE : Nat) (post : Int32 → KS → Prop) (S : KS) (x0 : Nat) : Prop :=
  ∃ n, lpn (w_X9_isInBounds_F31 cy tE post (w_X9_isInBounds_B62 cy tE post)) (fun _ _ _ => False) n S x0 0

set_option maxHeartbeats 4000000 in
set_option maxRecDepth 100000 in
theorem z_X9_isInBounds_B29 {p : Program} {l : Launch} {e : Env} {R : Room} {s : State} {m : MethodId} {args : Array Value} {below : List Frame} {meth : Method} {c : Code} {D : va_G} {cy : Nat → ClassId} {T0 tB tE : Nat} {A : Nat → Prop} {a : Nat → Nat} {rw : Nat → Option Nat} (hrw : ∀ i, i < 6 → rw i = some (a (12 + 2 * i))) {post : Int32 → KS → Prop} (b : Bz p R s m args meth c D cy T0 tB tE A 2 cX9_isInBounds RX9 (some .boolean) "isInBounds" 1 21 0 0) (S : KS) (x0 : Nat) (h : w_X9_isInBounds_B29 cy tE post S x0) : Z p l e R s m args below meth c D A 2 (MQ below (QI D (U := KS) post (kw cy a rw) A) args s 0 0 A) 0 0 (kw cy a rw S) [(0, .ref (a (2 + 2 * x0)))] 29 [] := by
  unfold w_X9_isInBounds_B29 at h
  refine z_iconst (v := 0) b dX9_isInBounds_29 (by decide) ?_
  refine z_istore_n (lv' := [(1, .int 0), (0, .ref (a (2 + 2 * x0)))]) b dX9_isInBounds_30 rfl (by decide) rfl ?_
  refine z_lv0 (lv' := [(0, .ref (a (2 + 2 * x0))), (1, .int 0)]) [1, 0] rfl ?_
  obtain ⟨n, h⟩ := h
  exact zl_X9_isInBounds_L31 hrw b (fun S x0 h => z_X9_isInBounds_B62 hrw b _ _ h) n _ _ _ h

def w_X9_isInBounds (cy : Nat → ClassId) (tE : Nat) (S : KS) (p9 : Nat) (post : Int32 → KS → Prop) : Prop :=
  ∃ n, lpn (w_X9_isInBounds_F2 cy tE post (w_X9_isInBounds_B29 cy tE post)) (fun _ _ _ => False) n S p9 0

set_option maxHeartbeats 4000000 in
set_option maxRecDepth 100000 in
theorem k_X9_isInBounds {l : Launch} {D : va_G} {cy : Nat → ClassId} {T0 tB tE : Nat} {a : Nat → Nat} {rw : Nat → Option Nat} (hrw : ∀ i, i < 6 → rw i = some (a (12 + 2 * i))) (S : KS) (p9 : Nat) (post : Int32 → KS → Prop) (h : w_X9_isInBounds cy tE S p9 post) : Ct l D cy T0 tB tE yX9_isInBounds cX9_isInBounds 2 (some .boolean) 1 21 0 0 (kw cy a rw S) [.ref (a (2 + 2 * p9))] (QI D (U := KS) post (kw cy a rw)) := by
  refine Ct.ofZ RX9 "isInBounds" [(0, .ref (a (2 + 2 * p9)))] rfl rfl rfl rfl (Nat.le_of_ble_eq_true rfl) ?_
  intro p e R s m args below meth c A b
  unfold w_X9_isInBounds at h
  refine z_iconst (v := 0) b dX9_isInBounds_0 (by decide) ?_
  refine z_istore_n (lv' := [(1, .int 0), (0, .ref (a (2 + 2 * p9)))]) b dX9_isInBounds_1 rfl (by decide) rfl ?_
  refine z_lv0 (lv' := [(0, .ref (a (2 + 2 * p9))), (1, .int 0)]) [1, 0] rfl ?_
  obtain ⟨n, h⟩ := h
  exact zl_X9_isInBounds_L2 hrw b (fun S x0 h => z_X9_isInBounds_B29 hrw b _ _ h) n _ _ _ h

def w_X2_why_F31 (cy : Nat → ClassId) (tE : Nat) (post : Int32 → KS → Prop) (k76 : KS → Nat → Int32 → Int32 → Option Nat → Prop) (k31 : KS → Nat → Int32 → Int32 → Option Nat → Int32 → Prop) (S : KS) (x1 : Nat) (x2 : Int32) (x4 : Int32) (x5 : Option Nat) (x6 : Int32) : Prop :=
  ∃ q6 : Nat, x5 = some q6 ∧ ∃ (i8 : Nat) (f9 : Int64) (f10 : Nat) (f11 : Nat) (f12 : Int32) (f13 : Int32), S.2.2.2[i8]? = some (q6, .inr (1, [.long f9, .ref f10, .ref f11, .int f12, .int f13])) ∧ ∃ (i15 : Nat) (f16 : List Value), S.2.2.2[i15]? = some (f10, .inr (0, f16)) ∧ w_Jx4a65c_size_8abf5 cy tE S f10 (fun r18 S19 => ((r18.toInt ≤ x6.toInt → k76 S19 x1 x2 x4 (some q6)) ∧ (x6.toInt < r18.toInt → ∃ (i20 : Nat) (f21 : Int64) (f22 : Nat) (f23 : Nat) (f24 : Int32) (f25 : Int32), S19.2.2.2[i20]? = some (q6, .inr (1, [.long f21, .ref f22, .ref f23, .int f24, .int f25])) ∧ ∃ (i27 : Nat) (f28 : List Value), S19.2.2.2[i27]? = some (f22, .inr (0, f28)) ∧ w_Jx4a65c_get_915e3 cy tE S19 f22 x6 (fun r30 S31 => ∃ q32 : Nat, r30 = some q32 ∧ ∃ (i34 : Nat) (f35 : List Value), S31.2.2.2[i34]? = some (q32, .inr (2, f35)) ∧ w_X6_value cy tE S31 q32 (fun r37 S38 => ((r37.toInt ≠ 0 → k31 S38 x1 x2 x4 (some q6) (x6 + 1)) ∧ (r37.toInt = 0 → post x6 S38)))))))

set_option maxHeartbeats 4000000 in
set_option maxRecDepth 100000 in
theorem z_X2_why_F31 {p : Program} {l : Launch} {e : Env} {R : Room} {s : State} {m : MethodId} {args : Array Value} {below : List Frame} {meth : Method} {c : Code} {D : va_G} {cy : Nat → ClassId} {T0 tB tE : Nat} {A : Nat → Prop} {a : Nat → Nat} {rw : Nat → Option Nat} (hrw : ∀ i, i < 6 → rw i = some (a (12 + 2 * i))) {post : Int32 → KS → Prop} {k76 : KS → Nat → Int32 → Int32 → Option Nat → Prop} {k31 : KS → Nat → Int32 → Int32 → Option Nat → Int32 → Prop} (b : Bz p R s m args meth c D cy T0 tB tE A 10 cX2_why RX2 (some .int) "why" 3 72 0 0) (hk76 : ∀ (S : KS) (x1 : Nat) (x2 : Int32) (x4 : Int32) (x5 : Option Nat), k76 S x1 x2 x4 x5 → Z p l e R s m args below meth c D A 10 (MQ below (QI D (U := KS) post (kw cy a rw) A) args s 0 0 A) 0 0 (kw cy a rw S) [(0, .ref (a 35)), (1, .ref (a (2 + 2 * x1))), (2, .int x2), (4, .int x4), (5, va_rf x5)] 76 []) (hk31 : ∀ (S : KS) (x1 : Nat) (x2 : Int32) (x4 : Int32) (x5 : Option Nat) (x6 : Int32), k31 S x1 x2 x4 x5 x6 → Z p l e R s m args below meth c D A 10 (MQ below (QI D (U := KS) post (kw cy a rw) A) args s 0 0 A) 0 0 (kw cy a rw S) [(0, .ref (a 35)), (1, .ref (a (2 + 2 * x1))), (2, .int x2), (4, .int x4), (5, va_rf x5), (6, .int x6)] 31 []) (S : KS) (x1 : Nat) (x2 : Int32) (x4 : Int32) (x5 : Option Nat) (x6 : Int32) (h : w_X2_why_F31 cy tE post k76 k31 S x1 x2 x4 x5 x6) : Z p l e R s m args below meth c D A 10 (MQ below (QI D (U := KS) post (kw cy a rw) A) args s 0 0 A) 0 0 (kw cy a rw S) [(0, .ref (a 35)), (1, .ref (a (2 + 2 * x1))), (2, .int x2), (4, .int x4), (5, va_rf x5), (6, .int x6)] 31 [] := by
  unfold w_X2_why_F31 at h
  refine z_iload b dX2_why_31 rfl ?_
  refine z_aload b dX2_why_33 rfl ?_
  obtain ⟨q6, g7, h⟩ := h
  subst g7
  obtain ⟨i8, f9, f10, f11, f12, f13, g14, h⟩ := h
  refine z_get (q0 := 47 + i8) (k9 := 1) (v := .ref f10) b (kw_dyn cy a rw S g14) rfl in_X0 (by decide) wf_X2_46 rfl dX2_why_35 ?_
  obtain ⟨i15, f16, g17, h⟩ := h
  refine z_calli b (z_runV (q0 := 47 + i15) (As := []) (st := [.int x6]) b (k_Jx4a65c_size_8abf5 hrw S f10 _ h) cf_Jx4a65c_size_8abf5 (kw_dyn cy a rw S g17) rfl wm_X2_52 wi_Jx4a65c_size_8abf5 ws_Jx4a65c_size_8abf5 dX2_why_38 rfl (Nat.le_of_ble_eq_true rfl) ⟨by decide, by decide, Nat.le_of_ble_eq_true rfl, Nat.le_of_ble_eq_true rfl⟩) (fun r18 S19 h => ?_)
  refine y_icmp_ge (tgt := 76) (xl := x6.toInt) (yl := r18.toInt) b rfl rfl dX2_why_41 (by decide) (fun c1 => ?_) (fun c1 => ?_)
  · replace h := h.1 c1
    refine z_lv0 (lv' := [(0, .ref (a 35)), (1, .ref (a (2 + 2 * x1))), (2, .int x2), (4, .int x4), (5, .ref q6)]) [0, 1, 2, 3, 4] rfl ?_
    exact hk76 _ _ _ _ _ h
  · replace h := h.2 c1
    refine z_aload_n b dX2_why_44 rfl rfl ?_
    refine z_get (q0 := 35) (k9 := 1) (v := .ref (a 36)) b (kw_35 cy a rw S19) rfl in_X2 (by decide) wf_X2_12 rfl dX2_why_45 ?_
    refine z_aload b dX2_why_48 rfl ?_
    obtain ⟨i20, f21, f22, f23, f24, f25, g26, h⟩ := h
    refine z_get (q0 := 47 + i20) (k9 := 1) (v := .ref f22) b (kw_dyn cy a rw S19 g26) rfl in_X0 (by decide) wf_X2_46 rfl dX2_why_50 ?_
    refine z_iload b dX2_why_53 rfl ?_
    obtain ⟨i27, f28, g29, h⟩ := h
    refine z_callq b (z_runV (q0 := 47 + i27) (As := [.int x6]) (st := [.ref (a 36)]) b (k_Jx4a65c_get_915e3 hrw S19 f22 x6 _ h) cf_Jx4a65c_get_915e3 (kw_dyn cy a rw S19 g29) rfl wm_X2_58 wi_Jx4a65c_get_915e3 ws_Jx4a65c_get_915e3 dX2_why_55 rfl (Nat.le_of_ble_eq_true rfl) ⟨by decide, by decide, Nat.le_of_ble_eq_true rfl, Nat.le_of_ble_eq_true rfl⟩) (fun r30 S31 h => ?_)
    obtain ⟨q32, g33, h⟩ := h
    subst g33
    obtain ⟨i34, f35, g36, h⟩ := h
    refine z_cast (q0 := 47 + i34) (ci := 2) b wk_X2_62 (kw_dyn cy a rw S31 g36) rfl dX2_why_58 ?_
    refine z_calli b (z_runV (q0 := 36) (As := [.ref q32]) (st := []) b (k_X6_value hrw S31 q32 _ h) cf_X6_value (kw_36 cy a rw S31) rfl wm_X2_64 wi_X6_value ws_X6_value dX2_why_61 rfl (Nat.le_of_ble_eq_true rfl) ⟨by decide, by decide, Nat.le_of_ble_eq_true rfl, Nat.le_of_ble_eq_true rfl⟩) (fun r37 S38 h => ?_)
    refine y_if_ne (tgt := 70) (xl := r37.toInt) b rfl dX2_why_64 (by decide) (fun c1 => ?_) (fun c1 => ?_)
    · replace h := h.1 c1
      refine z_iinc (k9 := 5) (v := (x6 + 1)) (lv' := [(6, .int (x6 + 1)), (0, .ref (a 35)), (1, .ref (a (2 + 2 * x1))), (2, .int x2), (4, .int x4), (5, .ref q6)]) b dX2_why_70 rfl rfl (by decide) rfl ?_
      refine z_goto (tgt := 31) b dX2_why_73 (by decide) ?_
      refine z_lv0 (lv' := [(0, .ref (a 35)), (1, .ref (a (2 + 2 * x1))), (2, .int x2), (4, .int x4), (5, .ref q6), (6, .int (x6 + 1))]) [1, 2, 3, 4, 5, 0] rfl ?_
      exact hk31 _ _ _ _ _ _ h
    · replace h := h.2 c1
      refine z_iload b dX2_why_67 rfl ?_
      exact z_iret (u := S38) b rfl dX2_why_69 h rfl (by decide) (by decide)

set_option maxHeartbeats 4000000 in
set_option maxRecDepth 100000 in
theorem zl_X2_why_L31 {p : Program} {l : Launch} {e : Env} {R : Room} {s : State} {m : MethodId} {args : Array Value} {below : List Frame} {meth : Method} {c : Code} {D : va_G} {cy : Nat → ClassId} {T0 tB tE : Nat} {A : Nat → Prop} {a : Nat → Nat} {rw : Nat → Option Nat} (hrw : ∀ i, i < 6 → rw i = some (a (12 + 2 * i))) {post : Int32 → KS → Prop} {k76 : KS → Nat → Int32 → Int32 → Option Nat → Prop} (b : Bz p R s m args meth c D cy T0 tB tE A 10 cX2_why RX2 (some .int) "why" 3 72 0 0) (hk76 : ∀ (S : KS) (x1 : Nat) (x2 : Int32) (x4 : Int32) (x5 : Option Nat), k76 S x1 x2 x4 x5 → Z p l e R s m args below meth c D A 10 (MQ below (QI D (U := KS) post (kw cy a rw) A) args s 0 0 A) 0 0 (kw cy a rw S) [(0, .ref (a 35)), (1, .ref (a (2 + 2 * x1))), (2, .int x2), (4, .int x4), (5, va_rf x5)] 76 []) : ∀ (n : Nat) (S : KS) (x1 : Nat) (x2 : Int32) (x4 : Int32) (x5 : Option Nat) (x6 : Int32), lpn (w_X2_why_F31 cy tE post k76) (fun _ _ _ _ _ _ => False) n S x1 x2 x4 x5 x6 → Z p l e R s m args below meth c D A 10 (MQ below (QI D (U := KS) post (kw cy a rw) A) args s 0 0 A) 0 0 (kw cy a rw S) [(0, .ref (a 35)), (1, .ref (a (2 + 2 * x1))), (2, .int x2), (4, .int x4), (5, va_rf x5), (6, .int x6)] 31 [] := by
  intro n
  induction n with
  | zero => intro _ _ _ _ _ _ h; exact h.elim
  | succ n ih => intro S x1 x2 x4 x5 x6 h; exact z_X2_why_F31 hrw b hk76 ih S x1 x2 x4 x5 x6 h

def w_X2_why_B167 (cy : Nat → ClassId) (tE : Nat) (post : Int32 → KS → Prop) (k79 : KS → Nat → Int32 → Int32 → Option Nat → Int32 → Prop) (k173 : KS → Nat → Int32 → Option Nat → Prop) (S : KS) (x1 : Nat) (x2 : Int32) (x4 : Int32) (x5 : Option Nat) (x6 : Int32) : Prop :=
  k79 S x1 x2 x4 x5 (x6 + 1)

set_option maxHeartbeats 4000000 in
set_option maxRecDepth 100000 in
theorem z_X2_why_B167 {p : Program} {l : Launch} {e : Env} {R : Room} {s : State} {m : MethodId} {args : Array Value} {below : List Frame} {meth : Method} {c : Code} {D : va_G} {cy : Nat → ClassId} {T0 tB tE : Nat} {A : Nat → Prop} {a : Nat → Nat} {rw : Nat → Option Nat} (hrw : ∀ i, i < 6 → rw i = some (a (12 + 2 * i))) {post : Int32 → KS → Prop} {k79 : KS → Nat → Int32 → Int32 → Option Nat → Int32 → Prop} {k173 : KS → Nat → Int32 → Option Nat → Prop} (b : Bz p R s m args meth c D cy T0 tB tE A 10 cX2_why RX2 (some .int) "why" 3 72 0 0) (hk79 : ∀ (S : KS) (x1 : Nat) (x2 : Int32) (x4 : Int32) (x5 : Option Nat) (x6 : Int32), k79 S x1 x2 x4 x5 x6 → Z p l e R s m args below meth c D A 10 (MQ below (QI D (U := KS) post (kw cy a rw) A) args s 0 0 A) 0 0 (kw cy a rw S) [(0, .ref (a 35)), (1, .ref (a (2 + 2 * x1))), (2, .int x2), (4, .int x4), (5, va_rf x5), (6, .int x6)] 79 []) (hk173 : ∀ (S : KS) (x1 : Nat) (x2 : Int32) (x5 : Option Nat), k173 S x1 x2 x5 → Z p l e R s m args below meth c D A 10 (MQ below (QI D (U := KS) post (kw cy a rw) A) args s 0 0 A) 0 0 (kw cy a rw S) [(0, .ref (a 35)), (1, .ref (a (2 + 2 * x1))), (2, .int x2), (5, va_rf x5)] 173 []) (S : KS) (x1 : Nat) (x2 : Int32) (x4 : Int32) (x5 : Option Nat) (x6 : Int32) (h : w_X2_why_B167 cy tE post k79 k173 S x1 x2 x4 x5 x6) : Z p l e R s m args below meth c D A 10 (MQ below (QI D (U := KS) post (kw cy a rw) A) args s 0 0 A) 0 0 (kw cy a rw S) [(0, .ref (a 35)), (1, .ref (a (2 + 2 * x1))), (2, .int x2), (4, .int x4), (5, va_rf x5), (6, .int x6)] 167 [] := by
  unfold w_X2_why_B167 at h
  refine z_iinc (k9 := 5) (v := (x6 + 1)) (lv' := [(6, .int (x6 + 1)), (0, .ref (a 35)), (1, .ref (a (2 + 2 * x1))), (2, .int x2), (4, .int x4), (5, va_rf x5)]) b dX2_why_167 rfl rfl (by decide) rfl ?_
  refine z_goto (tgt := 79) b dX2_why_170 (by decide) ?_
  refine z_lv0 (lv' := [(0, .ref (a 35)), (1, .ref (a (2 + 2 * x1))), (2, .int x2), (4, .int x4), (5, va_rf x5), (6, .int (x6 + 1))]) [1, 2, 3, 4, 5, 0] rfl ?_
  exact hk79 _ _ _ _ _ _ h

def w_X2_why_B139 (cy : Nat → ClassId) (tE : Nat) (post : Int32 → KS → Prop) (k79 : KS → Nat → Int32 → Int32 → Option Nat → Int32 → Prop) (k173 : KS → Nat → Int32 → Option Nat → Prop) (S : KS) (x1 : Nat) (x2 : Int32) (x4 : Int32) (x5 : Option Nat) (x6 : Int32) (x7 : Nat) (y0 : Int32) : Prop :=
  ((y0.toInt = 0 → w_X2_why_B167 cy tE post k79 k173 S x1 x2 x4 x5 x6) ∧ (y0.toInt ≠ 0 → ∃ (i54 : Nat) (f55 : Int32) (f56 : Nat), S.2.2.2[i54]? = some (x7, .inr (4, [.int f55, .ref f56])) ∧ w_X6_value cy tE S f56 (fun r58 S59 => ((r58.toInt ≠ 0 → w_X2_why_B167 cy tE post k79 k173 S59 x1 x2 x4 x5 x6) ∧ (r58.toInt = 0 → post ((10 : Int32) + x6) S59)))))

set_option maxHeartbeats 4000000 in
set_option maxRecDepth 100000 in
theorem z_X2_why_B139 {p : Program} {l : Launch} {e : Env} {R : Room} {s : State} {m : MethodId} {args : Array Value} {below : List Frame} {meth : Method} {c : Code} {D : va_G} {cy : Nat → ClassId} {T0 tB tE : Nat} {A : Nat → Prop} {a : Nat → Nat} {rw : Nat → Option Nat} (hrw : ∀ i, i < 6 → rw i = some (a (12 + 2 * i))) {post : Int32 → KS → Prop} {k79 : KS → Nat → Int32 → Int32 → Option Nat → Int32 → Prop} {k173 : KS → Nat → Int32 → Option Nat → Prop} (b : Bz p R s m args meth c D cy T0 tB tE A 10 cX2_why RX2 (some .int) "why" 3 72 0 0) (hk79 : ∀ (S : KS) (x1 : Nat) (x2 : Int32) (x4 : Int32) (x5 : Option Nat) (x6 : Int32), k79 S x1 x2 x4 x5 x6 → Z p l e R s m args below meth c D A 10 (MQ below (QI D (U := KS) post (kw cy a rw) A) args s 0 0 A) 0 0 (kw cy a rw S) [(0, .ref (a 35)), (1, .ref (a (2 + 2 * x1))), (2, .int x2), (4, .int x4), (5, va_rf x5), (6, .int x6)] 79 []) (hk173 : ∀ (S : KS) (x1 : Nat) (x2 : Int32) (x5 : Option Nat), k173 S x1 x2 x5 → Z p l e R s m args below meth c D A 10 (MQ below (QI D (U := KS) post (kw cy a rw) A) args s 0 0 A) 0 0 (kw cy a rw S) [(0, .ref (a 35)), (1, .ref (a (2 + 2 * x1))), (2, .int x2), (5, va_rf x5)] 173 []) (S : KS) (x1 : Nat) (x2 : Int32) (x4 : Int32) (x5 : Option Nat) (x6 : Int32) (x7 : Nat) (y0 : Int32) (h : w_X2_why_B139 cy tE post k79 k173 S x1 x2 x4 x5 x6 x7 y0) : Z p l e R s m args below meth c D A 10 (MQ below (QI D (U := KS) post (kw cy a rw) A) args s 0 0 A) 0 0 (kw cy a rw S) [(0, .ref (a 35)), (1, .ref (a (2 + 2 * x1))), (2, .int x2), (4, .int x4), (5, va_rf x5), (6, .int x6), (7, .ref x7)] 139 [.int y0] := by
  unfold w_X2_why_B139 at h
  refine z_istore (lv' := [(8, .int y0), (0, .ref (a 35)), (1, .ref (a (2 + 2 * x1))), (2, .int x2), (4, .int x4), (5, va_rf x5), (6, .int x6), (7, .ref x7)]) b dX2_why_139 (by decide) rfl ?_
  refine z_iload b dX2_why_141 rfl ?_
  refine y_if_eq (tgt := 167) (xl := y0.toInt) b rfl dX2_why_143 (by decide) (fun c1 => ?_) (fun c1 => ?_)
  · replace h := h.1 c1
    refine z_lv0 (lv' := [(0, .ref (a 35)), (1, .ref (a (2 + 2 * x1))), (2, .int x2), (4, .int x4), (5, va_rf x5), (6, .int x6)]) [1, 2, 3, 4, 5, 6] rfl ?_
    exact z_X2_why_B167 hrw b hk79 hk173 _ _ _ _ _ _ h
  · replace h := h.2 c1
    refine z_aload_n b dX2_why_146 rfl rfl ?_
    refine z_get (q0 := 35) (k9 := 1) (v := .ref (a 36)) b (kw_35 cy a rw S) rfl in_X2 (by decide) wf_X2_12 rfl dX2_why_147 ?_
    refine z_aload b dX2_why_150 rfl ?_
    obtain ⟨i54, f55, f56, g57, h⟩ := h
    refine z_get (q0 := 47 + i54) (k9 := 1) (v := .ref f56) b (kw_dyn cy a rw S g57) rfl in_X3 (by decide) wf_X2_76 rfl dX2_why_152 ?_
    refine z_calli b (z_runV (q0 := 36) (As := [.ref f56]) (st := []) b (k_X6_value hrw S f56 _ h) cf_X6_value (kw_36 cy a rw S) rfl wm_X2_64 wi_X6_value ws_X6_value dX2_why_155 rfl (Nat.le_of_ble_eq_true rfl) ⟨by decide, by decide, Nat.le_of_ble_eq_true rfl, Nat.le_of_ble_eq_true rfl⟩) (fun r58 S59 h => ?_)
    refine y_if_ne (tgt := 167) (xl := r58.toInt) b rfl dX2_why_158 (by decide) (fun c1 => ?_) (fun c1 => ?_)
    · replace h := h.1 c1
      refine z_lv0 (lv' := [(0, .ref (a 35)), (1, .ref (a (2 + 2 * x1))), (2, .int x2), (4, .int x4), (5, va_rf x5), (6, .int x6)]) [1, 2, 3, 4, 5, 6] rfl ?_
      exact z_X2_why_B167 hrw b hk79 hk173 _ _ _ _ _ _ h
    · replace h := h.2 c1
      refine z_bipush (v := 10) b dX2_why_161 (by decide) ?_
      refine z_iload b dX2_why_163 rfl ?_
      refine z_iadd b dX2_why_165 rfl ?_
      exact z_iret (u := S59) b rfl dX2_why_166 h rfl (by decide) (by decide)

def w_X2_why_B138 (cy : Nat → ClassId) (tE : Nat) (post : Int32 → KS → Prop) (k79 : KS → Nat → Int32 → Int32 → Option Nat → Int32 → Prop) (k173 : KS → Nat → Int32 → Option Nat → Prop) (S : KS) (x1 : Nat) (x2 : Int32) (x4 : Int32) (x5 : Option Nat) (x6 : Int32) (x7 : Nat) : Prop :=
  w_X2_why_B139 cy tE post k79 k173 S x1 x2 x4 x5 x6 x7 0

set_option maxHeartbeats 4000000 in
set_option maxRecDepth 100000 in
theorem z_X2_why_B138 {p : Program} {l : Launch} {e : Env} {R : Room} {s : State} {m : MethodId} {args : Array Value} {below : List Frame} {meth : Method} {c : Code} {D : va_G} {cy : Nat → ClassId} {T0 tB tE : Nat} {A : Nat → Prop} {a : Nat → Nat} {rw : Nat → Option Nat} (hrw : ∀ i, i < 6 → rw i = some (a (12 + 2 * i))) {post : Int32 → KS → Prop} {k79 : KS → Nat → Int32 → Int32 → Option Nat → Int32 → Prop} {k173 : KS → Nat → Int32 → Option Nat → Prop} (b : Bz p R s m args meth c D cy T0 tB tE A 10 cX2_why RX2 (some .int) "why" 3 72 0 0) (hk79 : ∀ (S : KS) (x1 : Nat) (x2 : Int32) (x4 : Int32) (x5 : Option Nat) (x6 : Int32), k79 S x1 x2 x4 x5 x6 → Z p l e R s m args below meth c D A 10 (MQ below (QI D (U := KS) post (kw cy a rw) A) args s 0 0 A) 0 0 (kw cy a rw S) [(0, .ref (a 35)), (1, .ref (a (2 + 2 * x1))), (2, .int x2), (4, .int x4), (5, va_rf x5), (6, .int x6)] 79 []) (hk173 : ∀ (S : KS) (x1 : Nat) (x2 : Int32) (x5 : Option Nat), k173 S x1 x2 x5 → Z p l e R s m args below meth c D A 10 (MQ below (QI D (U := KS) post (kw cy a rw) A) args s 0 0 A) 0 0 (kw cy a rw S) [(0, .ref (a 35)), (1, .ref (a (2 + 2 * x1))), (2, .int x2), (5, va_rf x5)] 173 []) (S : KS) (x1 : Nat) (x2 : Int32) (x4 : Int32) (x5 : Option Nat) (x6 : Int32) (x7 : Nat) (h : w_X2_why_B138 cy tE post k79 k173 S x1 x2 x4 x5 x6 x7) : Z p l e R s m args below meth c D A 10 (MQ below (QI D (U := KS) post (kw cy a rw) A) args s 0 0 A) 0 0 (kw cy a rw S) [(0, .ref (a 35)), (1, .ref (a (2 + 2 * x1))), (2, .int x2), (4, .int x4), (5, va_rf x5), (6, .int x6), (7, .ref x7)] 138 [] := by
  unfold w_X2_why_B138 at h
  refine z_iconst (v := 0) b dX2_why_138 (by decide) ?_
  exact z_X2_why_B139 hrw b hk79 hk173 _ _ _ _ _ _ _ _ h

def w_X2_why_F79 (cy : Nat → ClassId) (tE : Nat) (post : Int32 → KS → Prop) (k173 : KS → Nat → Int32 → Option Nat → Prop) (k79 : KS → Nat → Int32 → Int32 → Option Nat → Int32 → Prop) (S : KS) (x1 : Nat) (x2 : Int32) (x4 : Int32) (x5 : Option Nat) (x6 : Int32) : Prop :=
  ∃ (i39 : Nat) (f40 : List Value), S.2.2.2[i39]? = some ((S.2.1 2), .inr (0, f40)) ∧ w_Jx4a65c_size_8abf5 cy tE S (S.2.1 2) (fun r42 S43 => ((r42.toInt ≤ x6.toInt → k173 S43 x1 x2 x5) ∧ (x6.toInt < r42.toInt → ∃ (i44 : Nat) (f45 : List Value), S43.2.2.2[i44]? = some ((S43.2.1 2), .inr (0, f45)) ∧ w_Jx4a65c_get_915e3 cy tE S43 (S43.2.1 2) x6 (fun r47 S48 => ∃ q49 : Nat, r47 = some q49 ∧ ∃ (i51 : Nat) (f52 : List Value), S48.2.2.2[i51]? = some (q49, .inr (4, f52)) ∧ ((((x4 >>> (x6 &&& 31)) &&& 1).toInt ≠ 1 → w_X2_why_B138 cy tE post k79 k173 S48 x1 x2 x4 x5 x6 q49) ∧ (((x4 >>> (x6 &&& 31)) &&& 1).toInt = 1 → ∃ (i60 : Nat) (f61 : Int32) (f62 : Nat), S48.2.2.2[i60]? = some (q49, .inr (4, [.int f61, .ref f62])) ∧ ((f61.toInt ≠ (x2 / 64).toInt → w_X2_why_B138 cy tE post k79 k173 S48 x1 x2 x4 x5 x6 q49) ∧ (f61.toInt = (x2 / 64).toInt → w_X2_why_B139 cy tE post k79 k173 S48 x1 x2 x4 x5 x6 q49 1))))))))

set_option maxHeartbeats 4000000 in
set_option maxRecDepth 100000 in
theorem z_X2_why_F79 {p : Program} {l : Launch} {e : Env} {R : Room} {s : State} {m : MethodId} {args : Array Value} {below : List Frame} {meth : Method} {c : Code} {D : va_G} {cy : Nat → ClassId} {T0 tB tE : Nat} {A : Nat → Prop} {a : Nat → Nat} {rw : Nat → Option Nat} (hrw : ∀ i, i < 6 → rw i = some (a (12 + 2 * i))) {post : Int32 → KS → Prop} {k173 : KS → Nat → Int32 → Option Nat → Prop} {k79 : KS → Nat → Int32 → Int32 → Option Nat → Int32 → Prop} (b : Bz p R s m args meth c D cy T0 tB tE A 10 cX2_why RX2 (some .int) "why" 3 72 0 0) (hk173 : ∀ (S : KS) (x1 : Nat) (x2 : Int32) (x5 : Option Nat), k173 S x1 x2 x5 → Z p l e R s m args below meth c D A 10 (MQ below (QI D (U := KS) post (kw cy a rw) A) args s 0 0 A) 0 0 (kw cy a rw S) [(0, .ref (a 35)), (1, .ref (a (2 + 2 * x1))), (2, .int x2), (5, va_rf x5)] 173 []) (hk79 : ∀ (S : KS) (x1 : Nat) (x2 : Int32) (x4 : Int32) (x5 : Option Nat) (x6 : Int32), k79 S x1 x2 x4 x5 x6 → Z p l e R s m args below meth c D A 10 (MQ below (QI D (U := KS) post (kw cy a rw) A) args s 0 0 A) 0 0 (kw cy a rw S) [(0, .ref (a 35)), (1, .ref (a (2 + 2 * x1))), (2, .int x2), (4, .int x4), (5, va_rf x5), (6, .int x6)] 79 []) (S : KS) (x1 : Nat) (x2 : Int32) (x4 : Int32) (x5 : Option Nat) (x6 : Int32) (h : w_X2_why_F79 cy tE post k173 k79 S x1 x2 x4 x5 x6) : Z p l e R s m args below meth c D A 10 (MQ below (QI D (U := KS) post (kw cy a rw) A) args s 0 0 A) 0 0 (kw cy a rw S) [(0, .ref (a 35)), (1, .ref (a (2 + 2 * x1))), (2, .int x2), (4, .int x4), (5, va_rf x5), (6, .int x6)] 79 [] := by
  unfold w_X2_why_F79 at h
  refine z_iload b dX2_why_79 rfl ?_
  refine z_aload_n b dX2_why_81 rfl rfl ?_
  refine z_get (q0 := 35) (k9 := 0) (v := .ref (a 33)) b (kw_35 cy a rw S) rfl in_X2 (by decide) wf_X2_32 rfl dX2_why_82 ?_
  refine z_get (q0 := 33) (k9 := 2) (v := .ref (S.2.1 2)) b (kw_33 cy a rw S) rfl in_X4 (by decide) wf_X2_68 rfl dX2_why_85 ?_
  obtain ⟨i39, f40, g41, h⟩ := h
  refine z_calli b (z_runV (q0 := 47 + i39) (As := []) (st := [.int x6]) b (k_Jx4a65c_size_8abf5 hrw S (S.2.1 2) _ h) cf_Jx4a65c_size_8abf5 (kw_dyn cy a rw S g41) rfl wm_X2_52 wi_Jx4a65c_size_8abf5 ws_Jx4a65c_size_8abf5 dX2_why_88 rfl (Nat.le_of_ble_eq_true rfl) ⟨by decide, by decide, Nat.le_of_ble_eq_true rfl, Nat.le_of_ble_eq_true rfl⟩) (fun r42 S43 h => ?_)
  refine y_icmp_ge (tgt := 173) (xl := x6.toInt) (yl := r42.toInt) b rfl rfl dX2_why_91 (by decide) (fun c1 => ?_) (fun c1 => ?_)
  · replace h := h.1 c1
    refine z_lv0 (lv' := [(0, .ref (a 35)), (1, .ref (a (2 + 2 * x1))), (2, .int x2), (5, va_rf x5)]) [0, 1, 2, 4] rfl ?_
    exact hk173 _ _ _ _ h
  · replace h := h.2 c1
    refine z_aload_n b dX2_why_94 rfl rfl ?_
    refine z_get (q0 := 35) (k9 := 0) (v := .ref (a 33)) b (kw_35 cy a rw S43) rfl in_X2 (by decide) wf_X2_32 rfl dX2_why_95 ?_
    refine z_get (q0 := 33) (k9 := 2) (v := .ref (S43.2.1 2)) b (kw_33 cy a rw S43) rfl in_X4 (by decide) wf_X2_68 rfl dX2_why_98 ?_
    refine z_iload b dX2_why_101 rfl ?_
    obtain ⟨i44, f45, g46, h⟩ := h
    refine z_callq b (z_runV (q0 := 47 + i44) (As := [.int x6]) (st := []) b (k_Jx4a65c_get_915e3 hrw S43 (S43.2.1 2) x6 _ h) cf_Jx4a65c_get_915e3 (kw_dyn cy a rw S43 g46) rfl wm_X2_58 wi_Jx4a65c_get_915e3 ws_Jx4a65c_get_915e3 dX2_why_103 rfl (Nat.le_of_ble_eq_true rfl) ⟨by decide, by decide, Nat.le_of_ble_eq_true rfl, Nat.le_of_ble_eq_true rfl⟩) (fun r47 S48 h => ?_)
    obtain ⟨q49, g50, h⟩ := h
    subst g50
    obtain ⟨i51, f52, g53, h⟩ := h
    refine z_cast (q0 := 47 + i51) (ci := 4) b wk_X2_71 (kw_dyn cy a rw S48 g53) rfl dX2_why_106 ?_
    refine z_astore (lv' := [(7, .ref q49), (0, .ref (a 35)), (1, .ref (a (2 + 2 * x1))), (2, .int x2), (4, .int x4), (5, va_rf x5), (6, .int x6)]) b dX2_why_109 (by decide) rfl ?_
    refine z_iload b dX2_why_111 rfl ?_
    refine z_iload b dX2_why_113 rfl ?_
    refine z_ishr b dX2_why_115 rfl ?_
    refine z_iconst (v := 1) b dX2_why_116 (by decide) ?_
    refine z_iand b dX2_why_117 rfl ?_
    refine z_iconst (v := 1) b dX2_why_118 (by decide) ?_
    refine y_icmp_ne (tgt := 138) (xl := ((x4 >>> (x6 &&& 31)) &&& 1).toInt) (yl := 1) b rfl (by decide) dX2_why_119 (by decide) (fun c1 => ?_) (fun c1 => ?_)
    · replace h := h.1 c1
      refine z_lv0 (lv' := [(0, .ref (a 35)), (1, .ref (a (2 + 2 * x1))), (2, .int x2), (4, .int x4), (5, va_rf x5), (6, .int x6), (7, .ref q49)]) [1, 2, 3, 4, 5, 6, 0] rfl ?_
      exact z_X2_why_B138 hrw b hk79 hk173 _ _ _ _ _ _ _ h
    · replace h := h.2 c1
      refine z_aload b dX2_why_122 rfl ?_
      obtain ⟨i60, f61, f62, g63, h⟩ := h
      refine z_get (q0 := 47 + i60) (k9 := 0) (v := .int f61) b (kw_dyn cy a rw S48 g63) rfl in_X3 (by decide) wf_X2_73 rfl dX2_why_124 ?_
      refine z_iload_n b dX2_why_127 rfl rfl ?_
      refine z_bipush (v := 64) b dX2_why_128 (by decide) ?_
      refine z_idiv b dX2_why_130 (by decide) rfl ?_
      refine y_icmp_ne (tgt := 138) (xl := f61.toInt) (yl := (x2 / 64).toInt) b rfl rfl dX2_why_131 (by decide) (fun c1 => ?_) (fun c1 => ?_)
      · replace h := h.1 c1
        refine z_lv0 (lv' := [(0, .ref (a 35)), (1, .ref (a (2 + 2 * x1))), (2, .int x2), (4, .int x4), (5, va_rf x5), (6, .int x6), (7, .ref q49)]) [1, 2, 3, 4, 5, 6, 0] rfl ?_
        exact z_X2_why_B138 hrw b hk79 hk173 _ _ _ _ _ _ _ h
      · replace h := h.2 c1
        refine z_iconst (v := 1) b dX2_why_134 (by decide) ?_
        refine z_goto (tgt := 139) b dX2_why_135 (by decide) ?_
        refine z_lv0 (lv' := [(0, .ref (a 35)), (1, .ref (a (2 + 2 * x1))), (2, .int x2), (4, .int x4), (5, va_rf x5), (6, .int x6), (7, .ref q49)]) [1, 2, 3, 4, 5, 6, 0] rfl ?_
        exact z_X2_why_B139 hrw b hk79 hk173 _ _ _ _ _ _ _ _ h

set_option maxHeartbeats 4000000 in
set_option maxRecDepth 100000 in
theorem zl_X2_why_L79 {p : Program} {l : Launch} {e : Env} {R : Room} {s : State} {m : MethodId} {args : Array Value} {below : List Frame} {meth : Method} {c : Code} {D : va_G} {cy : Nat → ClassId} {T0 tB tE : Nat} {A : Nat → Prop} {a : Nat → Nat} {rw : Nat → Option Nat} (hrw : ∀ i, i < 6 → rw i = some (a (12 + 2 * i))) {post : Int32 → KS → Prop} {k173 : KS → Nat → Int32 → Option Nat → Prop} (b : Bz p R s m args meth c D cy T0 tB tE A 10 cX2_why RX2 (some .int) "why" 3 72 0 0) (hk173 : ∀ (S : KS) (x1 : Nat) (x2 : Int32) (x5 : Option Nat), k173 S x1 x2 x5 → Z p l e R s m args below meth c D A 10 (MQ below (QI D (U := KS) post (kw cy a rw) A) args s 0 0 A) 0 0 (kw cy a rw S) [(0, .ref (a 35)), (1, .ref (a (2 + 2 * x1))), (2, .int x2), (5, va_rf x5)] 173 []) : ∀ (n : Nat) (S : KS) (x1 : Nat) (x2 : Int32) (x4 : Int32) (x5 : Option Nat) (x6 : Int32), lpn (w_X2_why_F79 cy tE post k173) (fun _ _ _ _ _ _ => False) n S x1 x2 x4 x5 x6 → Z p l e R s m args below meth c D A 10 (MQ below (QI D (U := KS) post (kw cy a rw) A) args s 0 0 A) 0 0 (kw cy a rw S) [(0, .ref (a 35)), (1, .ref (a (2 + 2 * x1))), (2, .int x2), (4, .int x4), (5, va_rf x5), (6, .int x6)] 79 [] := by
  intro n
  induction n with
  | zero => intro _ _ _ _ _ _ h; exact h.elim
  | succ n ih => intro S x1 x2 x4 x5 x6 h; exact z_X2_why_F79 hrw b hk173 ih S x1 x2 x4 x5 x6 h

def w_X2_why_F184 (cy : Nat → ClassId) (tE : Nat) (post : Int32 → KS → Prop) (k277 : KS → Prop) (k184 : KS → Int32 → Option Nat → Int32 → Prop) (S : KS) (x2 : Int32) (x5 : Option Nat) (x6 : Int32) : Prop :=
  ∃ q66 : Nat, x5 = some q66 ∧ ∃ (i68 : Nat) (f69 : Int64) (f70 : Nat) (f71 : Nat) (f72 : Int32) (f73 : Int32), S.2.2.2[i68]? = some (q66, .inr (1, [.long f69, .ref f70, .ref f71, .int f72, .int f73])) ∧ ∃ (i75 : Nat) (f76 : List Value), S.2.2.2[i75]? = some (f71, .inr (0, f76)) ∧ w_Jx4a65c_size_8abf5 cy tE S f71 (fun r78 S79 => ((r78.toInt ≤ x6.toInt → k277 S79) ∧ (x6.toInt < r78.toInt → ∃ (i80 : Nat) (f81 : Int64) (f82 : Nat) (f83 : Nat) (f84 : Int32) (f85 : Int32), S79.2.2.2[i80]? = some (q66, .inr (1, [.long f81, .ref f82, .ref f83, .int f84, .int f85])) ∧ ∃ (i87 : Nat) (f88 : List Value), S79.2.2.2[i87]? = some (f83, .inr (0, f88)) ∧ w_Jx4a65c_get_915e3 cy tE S79 f83 x6 (fun r90 S91 => ∃ q92 : Nat, r90 = some q92 ∧ ∃ (i94 : Nat) (f95 : List Value), S91.2.2.2[i94]? = some (q92, .inr (2, f95)) ∧ ∃ (i97 : Nat) (f98 : Int32) (f99 : Int32) (f100 : Nat), S91.2.2.2[i97]? = some (q92, .inr (2, [.int f98, .int f99, .ref f100])) ∧ w_X6_person cy tE S91 f99 (fun r102 S103 => ∃ (i104 : Nat) (f105 : Int32) (f106 : Int32) (f107 : Nat), S103.2.2.2[i104]? = some (q92, .inr (2, [.int f105, .int f106, .ref f107])) ∧ w_X6_person cy tE S103 ((1 : Int32) - f106) (fun r109 S110 => ∃ (i111 : Nat) (f112 : Int32) (f113 : Int32) (f114 : Nat), S110.2.2.2[i111]? = some (q92, .inr (2, [.int f112, .int f113, .ref f114])) ∧ w_X11_thingOf cy tE S110 x2 (fun r116 S117 => w_X6_value cy tE S117 q92 (fun r118 S119 => w_X9_change cy tE S119 2 f112 r102 r109 r116 r118 (fun S121 => k184 S121 x2 (some q66) (x6 + 1))))))))))

set_option maxHeartbeats 4000000 in
set_option maxRecDepth 100000 in
theorem z_X2_why_F184 {p : Program} {l : Launch} {e : Env} {R : Room} {s : State} {m : MethodId} {args : Array Value} {below : List Frame} {meth : Method} {c : Code} {D : va_G} {cy : Nat → ClassId} {T0 tB tE : Nat} {A : Nat → Prop} {a : Nat → Nat} {rw : Nat → Option Nat} (hrw : ∀ i, i < 6 → rw i = some (a (12 + 2 * i))) {post : Int32 → KS → Prop} {k277 : KS → Prop} {k184 : KS → Int32 → Option Nat → Int32 → Prop} (b : Bz p R s m args meth c D cy T0 tB tE A 10 cX2_why RX2 (some .int) "why" 3 72 0 0) (hk277 : ∀ (S : KS), k277 S → Z p l e R s m args below meth c D A 10 (MQ below (QI D (U := KS) post (kw cy a rw) A) args s 0 0 A) 0 0 (kw cy a rw S) [(0, .ref (a 35))] 277 []) (hk184 : ∀ (S : KS) (x2 : Int32) (x5 : Option Nat) (x6 : Int32), k184 S x2 x5 x6 → Z p l e R s m args below meth c D A 10 (MQ below (QI D (U := KS) post (kw cy a rw) A) args s 0 0 A) 0 0 (kw cy a rw S) [(0, .ref (a 35)), (2, .int x2), (5, va_rf x5), (6, .int x6)] 184 []) (S : KS) (x2 : Int32) (x5 : Option Nat) (x6 : Int32) (h : w_X2_why_F184 cy tE post k277 k184 S x2 x5 x6) : Z p l e R s m args below meth c D A 10 (MQ below (QI D (U := KS) post (kw cy a rw) A) args s 0 0 A) 0 0 (kw cy a rw S) [(0, .ref (a 35)), (2, .int x2), (5, va_rf x5), (6, .int x6)] 184 [] := by
  unfold w_X2_why_F184 at h
  refine z_iload b dX2_why_184 rfl ?_
  refine z_aload b dX2_why_186 rfl ?_
  obtain ⟨q66, g67, h⟩ := h
  subst g67
  obtain ⟨i68, f69, f70, f71, f72, f73, g74, h⟩ := h
  refine z_get (q0 := 47 + i68) (k9 := 2) (v := .ref f71) b (kw_dyn cy a rw S g74) rfl in_X0 (by decide) wf_X2_84 rfl dX2_why_188 ?_
  obtain ⟨i75, f76, g77, h⟩ := h
  refine z_calli b (z_runV (q0 := 47 + i75) (As := []) (st := [.int x6]) b (k_Jx4a65c_size_8abf5 hrw S f71 _ h) cf_Jx4a65c_size_8abf5 (kw_dyn cy a rw S g77) rfl wm_X2_52 wi_Jx4a65c_size_8abf5 ws_Jx4a65c_size_8abf5 dX2_why_191 rfl (Nat.le_of_ble_eq_true rfl) ⟨by decide, by decide, Nat.le_of_ble_eq_true rfl, Nat.le_of_ble_eq_true rfl⟩) (fun r78 S79 h => ?_)
  refine y_icmp_ge (tgt := 277) (xl := x6.toInt) (yl := r78.toInt) b rfl rfl dX2_why_194 (by decide) (fun c1 => ?_) (fun c1 => ?_)
  · replace h := h.1 c1
    refine z_lv0 (lv' := [(0, .ref (a 35))]) [0] rfl ?_
    exact hk277 _ h
  · replace h := h.2 c1
    refine z_aload b dX2_why_197 rfl ?_
    obtain ⟨i80, f81, f82, f83, f84, f85, g86, h⟩ := h
    refine z_get (q0 := 47 + i80) (k9 := 2) (v := .ref f83) b (kw_dyn cy a rw S79 g86) rfl in_X0 (by decide) wf_X2_84 rfl dX2_why_199 ?_
    refine z_iload b dX2_why_202 rfl ?_
    obtain ⟨i87, f88, g89, h⟩ := h
    refine z_callq b (z_runV (q0 := 47 + i87) (As := [.int x6]) (st := []) b (k_Jx4a65c_get_915e3 hrw S79 f83 x6 _ h) cf_Jx4a65c_get_915e3 (kw_dyn cy a rw S79 g89) rfl wm_X2_58 wi_Jx4a65c_get_915e3 ws_Jx4a65c_get_915e3 dX2_why_204 rfl (Nat.le_of_ble_eq_true rfl) ⟨by decide, by decide, Nat.le_of_ble_eq_true rfl, Nat.le_of_ble_eq_true rfl⟩) (fun r90 S91 h => ?_)
    obtain ⟨q92, g93, h⟩ := h
    subst g93
    obtain ⟨i94, f95, g96, h⟩ := h
    refine z_cast (q0 := 47 + i94) (ci := 2) b wk_X2_62 (kw_dyn cy a rw S91 g96) rfl dX2_why_207 ?_
    refine z_astore (lv' := [(7, .ref q92), (0, .ref (a 35)), (2, .int x2), (5, .ref q66), (6, .int x6)]) b dX2_why_210 (by decide) rfl ?_
    refine z_aload_n b dX2_why_212 rfl rfl ?_
    refine z_get (q0 := 35) (k9 := 1) (v := .ref (a 36)) b (kw_35 cy a rw S91) rfl in_X2 (by decide) wf_X2_12 rfl dX2_why_213 ?_
    refine z_aload b dX2_why_216 rfl ?_
    obtain ⟨i97, f98, f99, f100, g101, h⟩ := h
    refine z_get (q0 := 47 + i97) (k9 := 1) (v := .int f99) b (kw_dyn cy a rw S91 g101) rfl in_X1 (by decide) wf_X2_87 rfl dX2_why_218 ?_
    refine z_calli b (z_runV (q0 := 36) (As := [.int f99]) (st := []) b (k_X6_person hrw S91 f99 _ h) cf_X6_person (kw_36 cy a rw S91) rfl wm_X2_90 wi_X6_person ws_X6_person dX2_why_221 rfl (Nat.le_of_ble_eq_true rfl) ⟨by decide, by decide, Nat.le_of_ble_eq_true rfl, Nat.le_of_ble_eq_true rfl⟩) (fun r102 S103 h => ?_)
    refine z_istore (lv' := [(8, .int r102), (7, .ref q92), (0, .ref (a 35)), (2, .int x2), (5, .ref q66), (6, .int x6)]) b dX2_why_224 (by decide) rfl ?_
    refine z_aload_n b dX2_why_226 rfl rfl ?_
    refine z_get (q0 := 35) (k9 := 1) (v := .ref (a 36)) b (kw_35 cy a rw S103) rfl in_X2 (by decide) wf_X2_12 rfl dX2_why_227 ?_
    refine z_iconst (v := 1) b dX2_why_230 (by decide) ?_
    refine z_aload b dX2_why_231 rfl ?_
    obtain ⟨i104, f105, f106, f107, g108, h⟩ := h
    refine z_get (q0 := 47 + i104) (k9 := 1) (v := .int f106) b (kw_dyn cy a rw S103 g108) rfl in_X1 (by decide) wf_X2_87 rfl dX2_why_233 ?_
    refine z_isub b dX2_why_236 rfl ?_
    refine z_calli b (z_runV (q0 := 36) (As := [.int ((1 : Int32) - f106)]) (st := []) b (k_X6_person hrw S103 ((1 : Int32) - f106) _ h) cf_X6_person (kw_36 cy a rw S103) rfl wm_X2_90 wi_X6_person ws_X6_person dX2_why_237 rfl (Nat.le_of_ble_eq_true rfl) ⟨by decide, by decide, Nat.le_of_ble_eq_true rfl, Nat.le_of_ble_eq_true rfl⟩) (fun r109 S110 h => ?_)
    refine z_istore (lv' := [(9, .int r109), (8, .int r102), (7, .ref q92), (0, .ref (a 35)), (2, .int x2), (5, .ref q66), (6, .int x6)]) b dX2_why_240 (by decide) rfl ?_
    refine z_aload_n b dX2_why_242 rfl rfl ?_
    refine z_get (q0 := 35) (k9 := 2) (v := .ref (a 6)) b (kw_35 cy a rw S110) rfl in_X2 (by decide) wf_X2_21 rfl dX2_why_243 ?_
    refine z_aload b dX2_why_246 rfl ?_
    obtain ⟨i111, f112, f113, f114, g115, h⟩ := h
    refine z_get (q0 := 47 + i111) (k9 := 0) (v := .int f112) b (kw_dyn cy a rw S110 g115) rfl in_X1 (by decide) wf_X2_94 rfl dX2_why_248 ?_
    refine z_iload b dX2_why_251 rfl ?_
    refine z_iload b dX2_why_253 rfl ?_
    refine z_iload_n b dX2_why_255 rfl rfl ?_
    refine z_calli b (z_runSN (As := [.int x2]) (st := [.int r109, .int r102, .int f112, .ref (a 6)]) b (k_X11_thingOf hrw S110 x2 _ h) cf_X11_thingOf (nw_X2_97) ws_X11_thingOf dX2_why_256 rfl (Nat.le_of_ble_eq_true rfl) ⟨by decide, by decide, Nat.le_of_ble_eq_true rfl, Nat.le_of_ble_eq_true rfl⟩) (fun r116 S117 h => ?_)
    refine z_aload_n b dX2_why_259 rfl rfl ?_
    refine z_get (q0 := 35) (k9 := 1) (v := .ref (a 36)) b (kw_35 cy a rw S117) rfl in_X2 (by decide) wf_X2_12 rfl dX2_why_260 ?_
    refine z_aload b dX2_why_263 rfl ?_
    refine z_calli b (z_runV (q0 := 36) (As := [.ref q92]) (st := [.int r116, .int r109, .int r102, .int f112, .ref (a 6)]) b (k_X6_value hrw S117 q92 _ h) cf_X6_value (kw_36 cy a rw S117) rfl wm_X2_64 wi_X6_value ws_X6_value dX2_why_265 rfl (Nat.le_of_ble_eq_true rfl) ⟨by decide, by decide, Nat.le_of_ble_eq_true rfl, Nat.le_of_ble_eq_true rfl⟩) (fun r118 S119 h => ?_)
    refine z_callv b (z_runV (q0 := 6) (As := [.int f112, .int r102, .int r109, .int r116, .int r118]) (st := []) b (k_X9_change hrw S119 2 f112 r102 r109 r116 r118 _ h) cf_X9_change (kw_6 cy a rw S119) rfl wm_X2_100 wi_X9_change ws_X9_change dX2_why_268 rfl (Nat.le_of_ble_eq_true rfl) ⟨by decide, by decide, Nat.le_of_ble_eq_true rfl, Nat.le_of_ble_eq_true rfl⟩) (fun S121 h => ?_)
    refine z_iinc (k9 := 6) (v := (x6 + 1)) (lv' := [(6, .int (x6 + 1)), (9, .int r109), (8, .int r102), (7, .ref q92), (0, .ref (a 35)), (2, .int x2), (5, .ref q66)]) b dX2_why_271 rfl rfl (by decide) rfl ?_
    refine z_goto (tgt := 184) b dX2_why_274 (by decide) ?_
    refine z_lv0 (lv' := [(0, .ref (a 35)), (2, .int x2), (5, .ref q66), (6, .int (x6 + 1))]) [4, 5, 6, 0] rfl ?_
    exact hk184 _ _ _ _ h

set_option maxHeartbeats 4000000 in
set_option maxRecDepth 100000 in
theorem zl_X2_why_L184 {p : Program} {l : Launch} {e : Env} {R : Room} {s : State} {m : MethodId} {args : Array Value} {below : List Frame} {meth : Method} {c : Code} {D : va_G} {cy : Nat → ClassId} {T0 tB tE : Nat} {A : Nat → Prop} {a : Nat → Nat} {rw : Nat → Option Nat} (hrw : ∀ i, i < 6 → rw i = some (a (12 + 2 * i))) {post : Int32 → KS → Prop} {k277 : KS → Prop} (b : Bz p R s m args meth c D cy T0 tB tE A 10 cX2_why RX2 (some .int) "why" 3 72 0 0) (hk277 : ∀ (S : KS), k277 S → Z p l e R s m args below meth c D A 10 (MQ below (QI D (U := KS) post (kw cy a rw) A) args s 0 0 A) 0 0 (kw cy a rw S) [(0, .ref (a 35))] 277 []) : ∀ (n : Nat) (S : KS) (x2 : Int32) (x5 : Option Nat) (x6 : Int32), lpn (w_X2_why_F184 cy tE post k277) (fun _ _ _ _ => False) n S x2 x5 x6 → Z p l e R s m args below meth c D A 10 (MQ below (QI D (U := KS) post (kw cy a rw) A) args s 0 0 A) 0 0 (kw cy a rw S) [(0, .ref (a 35)), (2, .int x2), (5, va_rf x5), (6, .int x6)] 184 [] := by
  intro n
  induction n with
  | zero => intro _ _ _ _ h; exact h.elim
  | succ n ih => intro S x2 x5 x6 h; exact z_X2_why_F184 hrw b hk277 ih S x2 x5 x6 h

def w_X2_why_B293 (cy : Nat → ClassId) (tE : Nat) (post : Int32 → KS → Prop) (S : KS) (y0 : Int32) : Prop :=
  post y0 S

set_option maxHeartbeats 4000000 in
set_option maxRecDepth 100000 in
theorem z_X2_why_B293 {p : Program} {l : Launch} {e : Env} {R : Room} {s : State} {m : MethodId} {args : Array Value} {below : List Frame} {meth : Method} {c : Code} {D : va_G} {cy : Nat → ClassId} {T0 tB tE : Nat} {A : Nat → Prop} {a : Nat → Nat} {rw : Nat → Option Nat} (hrw : ∀ i, i < 6 → rw i = some (a (12 + 2 * i))) {post : Int32 → KS → Prop} (b : Bz p R s m args meth c D cy T0 tB tE A 10 cX2_why RX2 (some .int) "why" 3 72 0 0) (S : KS) (y0 : Int32) (h : w_X2_why_B293 cy tE post S y0) : Z p l e R s m args below meth c D A 10 (MQ below (QI D (U := KS) post (kw cy a rw) A) args s 0 0 A) 0 0 (kw cy a rw S) [] 293 [.int y0] := by
  unfold w_X2_why_B293 at h
  exact z_iret (u := S) b rfl dX2_why_293 h rfl (by decide) (by decide)

def w_X2_why_B277 (cy : Nat → ClassId) (tE : Nat) (post : Int32 → KS → Prop) (S : KS)  : Prop :=
  w_X9_isInBounds cy tE S 2 (fun r122 S123 => ((r122.toInt = 0 → w_X2_why_B293 cy tE post S123 20) ∧ (r122.toInt ≠ 0 → w_X2_why_B293 cy tE post S123 (-1))))

set_option maxHeartbeats 4000000 in
set_option maxRecDepth 100000 in
theorem z_X2_why_B277 {p : Program} {l : Launch} {e : Env} {R : Room} {s : State} {m : MethodId} {args : Array Value} {below : List Frame} {meth : Method} {c : Code} {D : va_G} {cy : Nat → ClassId} {T0 tB tE : Nat} {A : Nat → Prop} {a : Nat → Nat} {rw : Nat → Option Nat} (hrw : ∀ i, i < 6 → rw i = some (a (12 + 2 * i))) {post : Int32 → KS → Prop} (b : Bz p R s m args meth c D cy T0 tB tE A 10 cX2_why RX2 (some .int) "why" 3 72 0 0) (S : KS)  (h : w_X2_why_B277 cy tE post S ) : Z p l e R s m args below meth c D A 10 (MQ below (QI D (U := KS) post (kw cy a rw) A) args s 0 0 A) 0 0 (kw cy a rw S) [(0, .ref (a 35))] 277 [] := by
  unfold w_X2_why_B277 at h
  refine z_aload_n b dX2_why_277 rfl rfl ?_
  refine z_get (q0 := 35) (k9 := 2) (v := .ref (a 6)) b (kw_35 cy a rw S) rfl in_X2 (by decide) wf_X2_21 rfl dX2_why_278 ?_
  refine z_calli b (z_runV (q0 := 6) (As := []) (st := []) b (k_X9_isInBounds hrw S 2 _ h) cf_X9_isInBounds (kw_6 cy a rw S) rfl wm_X2_104 wi_X9_isInBounds ws_X9_isInBounds dX2_why_281 rfl (Nat.le_of_ble_eq_true rfl) ⟨by decide, by decide, Nat.le_of_ble_eq_true rfl, Nat.le_of_ble_eq_true rfl⟩) (fun r122 S123 h => ?_)
  refine y_if_eq (tgt := 291) (xl := r122.toInt) b rfl dX2_why_284 (by decide) (fun c1 => ?_) (fun c1 => ?_)
  · replace h := h.1 c1
    refine z_bipush (v := 20) b dX2_why_291 (by decide) ?_
    refine z_lv0 (lv' := []) [] rfl ?_
    exact z_X2_why_B293 hrw b _ _ h
  · replace h := h.2 c1
    refine z_iconst (v := (-1)) b dX2_why_287 (by decide) ?_
    refine z_goto (tgt := 293) b dX2_why_288 (by decide) ?_
    refine z_lv0 (lv' := []) [] rfl ?_
    exact z_X2_why_B293 hrw b _ _ h

def w_X2_why_B173 (cy : Nat → ClassId) (tE : Nat) (post : Int32 → KS → Prop) (S : KS) (x1 : Nat) (x2 : Int32) (x5 : Option Nat) : Prop :=
  w_X9_copy cy tE S 2 x1 (fun S65 => ∃ n, lpn (w_X2_why_F184 cy tE post (w_X2_why_B277 cy tE post)) (fun _ _ _ _ => False) n S65 x2 x5 0)

set_option maxHeartbeats 4000000 in
set_option maxRecDepth 100000 in
theorem z_X2_why_B173 {p : Program} {l : Launch} {e : Env} {R : Room} {s : State} {m : MethodId} {args : Array Value} {below : List Frame} {meth : Method} {c : Code} {D : va_G} {cy : Nat → ClassId} {T0 tB tE : Nat} {A : Nat → Prop} {a : Nat → Nat} {rw : Nat → Option Nat} (hrw : ∀ i, i < 6 → rw i = some (a (12 + 2 * i))) {post : Int32 → KS → Prop} (b : Bz p R s m args meth c D cy T0 tB tE A 10 cX2_why RX2 (some .int) "why" 3 72 0 0) (S : KS) (x1 : Nat) (x2 : Int32) (x5 : Option Nat) (h : w_X2_why_B173 cy tE post S x1 x2 x5) : Z p l e R s m args below meth c D A 10 (MQ below (QI D (U := KS) post (kw cy a rw) A) args s 0 0 A) 0 0 (kw cy a rw S) [(0, .ref (a 35)), (1, .ref (a (2 + 2 * x1))), (2, .int x2), (5, va_rf x5)] 173 [] := by
  unfold w_X2_why_B173 at h
  refine z_aload_n b dX2_why_173 rfl rfl ?_
  refine z_get (q0 := 35) (k9 := 2) (v := .ref (a 6)) b (kw_35 cy a rw S) rfl in_X2 (by decide) wf_X2_21 rfl dX2_why_174 ?_
  refine z_aload_n b dX2_why_177 rfl rfl ?_
  refine z_callv b (z_runV (q0 := 6) (As := [.ref (a (2 + 2 * x1))]) (st := []) b (k_X9_copy hrw S 2 x1 _ h) cf_X9_copy (kw_6 cy a rw S) rfl wm_X2_80 wi_X9_copy ws_X9_copy dX2_why_178 rfl (Nat.le_of_ble_eq_true rfl) ⟨by decide, by decide, Nat.le_of_ble_eq_true rfl, Nat.le_of_ble_eq_true rfl⟩) (fun S65 h => ?_)
  refine z_iconst (v := 0) b dX2_why_181 (by decide) ?_
  refine z_istore (lv' := [(6, .int 0), (0, .ref (a 35)), (1, .ref (a (2 + 2 * x1))), (2, .int x2), (5, va_rf x5)]) b dX2_why_182 (by decide) rfl ?_
  refine z_lv0 (lv' := [(0, .ref (a 35)), (2, .int x2), (5, va_rf x5), (6, .int 0)]) [1, 3, 4, 0] rfl ?_
  obtain ⟨n, h⟩ := h
  exact zl_X2_why_L184 hrw b (fun S h => z_X2_why_B277 hrw b _ h) n _ _ _ _ h

def w_X2_why_B76 (cy : Nat → ClassId) (tE : Nat) (post : Int32 → KS → Prop) (S : KS) (x1 : Nat) (x2 : Int32) (x4 : Int32) (x5 : Option Nat) : Prop :=
  ∃ n, lpn (w_X2_why_F79 cy tE post (w_X2_why_B173 cy tE post)) (fun _ _ _ _ _ _ => False) n S x1 x2 x4 x5 0

set_option maxHeartbeats 4000000 in
set_option maxRecDepth 100000 in
theorem z_X2_why_B76 {p : Program} {l : Launch} {e : Env} {R : Room} {s : State} {m : MethodId} {args : Array Value} {below : List Frame} {meth : Method} {c : Code} {D : va_G} {cy : Nat → ClassId} {T0 tB tE : Nat} {A : Nat → Prop} {a : Nat → Nat} {rw : Nat → Option Nat} (hrw : ∀ i, i < 6 → rw i = some (a (12 + 2 * i))) {post : Int32 → KS → Prop} (b : Bz p R s m args meth c D cy T0 tB tE A 10 cX2_why RX2 (some .int) "why" 3 72 0 0) (S : KS) (x1 : Nat) (x2 : Int32) (x4 : Int32) (x5 : Option Nat) (h : w_X2_why_B76 cy tE post S x1 x2 x4 x5) : Z p l e R s m args below meth c D A 10 (MQ below (QI D (U := KS) post (kw cy a rw) A) args s 0 0 A) 0 0 (kw cy a rw S) [(0, .ref (a 35)), (1, .ref (a (2 + 2 * x1))), (2, .int x2), (4, .int x4), (5, va_rf x5)] 76 [] := by
  unfold w_X2_why_B76 at h
  refine z_iconst (v := 0) b dX2_why_76 (by decide) ?_
  refine z_istore (lv' := [(6, .int 0), (0, .ref (a 35)), (1, .ref (a (2 + 2 * x1))), (2, .int x2), (4, .int x4), (5, va_rf x5)]) b dX2_why_77 (by decide) rfl ?_
  refine z_lv0 (lv' := [(0, .ref (a 35)), (1, .ref (a (2 + 2 * x1))), (2, .int x2), (4, .int x4), (5, va_rf x5), (6, .int 0)]) [1, 2, 3, 4, 5, 0] rfl ?_
  obtain ⟨n, h⟩ := h
  exact zl_X2_why_L79 hrw b (fun S x1 x2 x5 h => z_X2_why_B173 hrw b _ _ _ _ h) n _ _ _ _ _ _ h

def w_X2_why (cy : Nat → ClassId) (tE : Nat) (S : KS) (p0 : Nat) (p1 : Int32) (p2 : Int32) (p3 : Int32) (post : Int32 → KS → Prop) : Prop :=
  w_X4_actOf cy tE S p1 p2 (fun r1 S2 => ((r1 = none → post 30 S2) ∧ (∀ q3 : Nat, r1 = some q3 → w_X6_look cy tE S2 p0 p1 (fun S5 => ∃ n, lpn (w_X2_why_F31 cy tE post (w_X2_why_B76 cy tE post)) (fun _ _ _ _ _ _ => False) n S5 p0 p1 p3 (some q3) 0))))

set_option maxHeartbeats 4000000 in
set_option maxRecDepth 100000 in
theorem k_X2_why {l : Launch} {D : va_G} {cy : Nat → ClassId} {T0 tB tE : Nat} {a : Nat → Nat} {rw : Nat → Option Nat} (hrw : ∀ i, i < 6 → rw i = some (a (12 + 2 * i))) (S : KS) (p0 : Nat) (p1 : Int32) (p2 : Int32) (p3 : Int32) (post : Int32 → KS → Prop) (h : w_X2_why cy tE S p0 p1 p2 p3 post) : Ct l D cy T0 tB tE yX2_why cX2_why 10 (some .int) 3 72 0 0 (kw cy a rw S) [.ref (a 35), .ref (a (2 + 2 * p0)), .int p1, .int p2, .int p3] (QI D (U := KS) post (kw cy a rw)) := by
  refine Ct.ofZ RX2 "why" [(0, .ref (a 35)), (1, .ref (a (2 + 2 * p0))), (2, .int p1), (3, .int p2), (4, .int p3)] rfl rfl rfl rfl (Nat.le_of_ble_eq_true rfl) ?_
  intro p e R s m args below meth c A b
  unfold w_X2_why at h
  refine z_aload_n b dX2_why_0 rfl rfl ?_
  refine z_get (q0 := 35) (k9 := 0) (v := .ref (a 33)) b (kw_35 cy a rw S) rfl in_X2 (by decide) wf_X2_32 rfl dX2_why_1 ?_
  refine z_iload_n b dX2_why_4 rfl rfl ?_
  refine z_iload_n b dX2_why_5 rfl rfl ?_
  refine z_callq b (z_runV (q0 := 33) (As := [.int p1, .int p2]) (st := []) b (k_X4_actOf hrw S p1 p2 _ h) cf_X4_actOf (kw_33 cy a rw S) rfl wm_X2_36 wi_X4_actOf ws_X4_actOf dX2_why_6 rfl (Nat.le_of_ble_eq_true rfl) ⟨by decide, by decide, Nat.le_of_ble_eq_true rfl, Nat.le_of_ble_eq_true rfl⟩) (fun r1 S2 h => ?_)
  refine z_astore (lv' := [(5, va_rf r1), (0, .ref (a 35)), (1, .ref (a (2 + 2 * p0))), (2, .int p1), (3, .int p2), (4, .int p3)]) b dX2_why_9 (by decide) rfl ?_
  refine z_aload b dX2_why_11 rfl ?_
  cases r1 with
  | none =>
    replace h := h.1 rfl
    refine z_ifnonnullN b dX2_why_13 ?_
    refine z_bipush (v := 30) b dX2_why_16 (by decide) ?_
    exact z_iret (u := S2) b rfl dX2_why_18 h rfl (by decide) (by decide)
  | some q3 =>
    replace h := h.2 q3 rfl
    refine z_ifnonnull (tgt := 19) b dX2_why_13 (by decide) ?_
    refine z_aload_n b dX2_why_19 rfl rfl ?_
    refine z_get (q0 := 35) (k9 := 1) (v := .ref (a 36)) b (kw_35 cy a rw S2) rfl in_X2 (by decide) wf_X2_12 rfl dX2_why_20 ?_
    refine z_aload_n b dX2_why_23 rfl rfl ?_
    refine z_iload_n b dX2_why_24 rfl rfl ?_
    refine z_callv b (z_runV (q0 := 36) (As := [.ref (a (2 + 2 * p0)), .int p1]) (st := []) b (k_X6_look hrw S2 p0 p1 _ h) cf_X6_look (kw_36 cy a rw S2) rfl wm_X2_42 wi_X6_look ws_X6_look dX2_why_25 rfl (Nat.le_of_ble_eq_true rfl) ⟨by decide, by decide, Nat.le_of_ble_eq_true rfl, Nat.le_of_ble_eq_true rfl⟩) (fun S5 h => ?_)
    refine z_iconst (v := 0) b dX2_why_28 (by decide) ?_
    refine z_istore (lv' := [(6, .int 0), (5, .ref q3), (0, .ref (a 35)), (1, .ref (a (2 + 2 * p0))), (2, .int p1), (3, .int p2), (4, .int p3)]) b dX2_why_29 (by decide) rfl ?_
    refine z_lv0 (lv' := [(0, .ref (a 35)), (1, .ref (a (2 + 2 * p0))), (2, .int p1), (4, .int p3), (5, .ref q3), (6, .int 0)]) [2, 3, 4, 6, 1, 0] rfl ?_
    obtain ⟨n, h⟩ := h
    exact zl_X2_why_L31 hrw b (fun S x1 x2 x4 x5 h => z_X2_why_B76 hrw b _ _ _ _ _ h) n _ _ _ _ _ _ h

def w_X11_become_B42 (cy : Nat → ClassId) (tE : Nat) (post : Int32 → KS → Prop) (S : KS) (y0 : Int32) : Prop :=
  post y0 S

set_option maxHeartbeats 4000000 in
set_option maxRecDepth 100000 in
theorem z_X11_become_B42 {p : Program} {l : Launch} {e : Env} {R : Room} {s : State} {m : MethodId} {args : Array Value} {below : List Frame} {meth : Method} {c : Code} {D : va_G} {cy : Nat → ClassId} {T0 tB tE : Nat} {A : Nat → Prop} {a : Nat → Nat} {rw : Nat → Option Nat} (hrw : ∀ i, i < 6 → rw i = some (a (12 + 2 * i))) {post : Int32 → KS → Prop} (b : Bz p R s m args meth c D cy T0 tB tE A 3 cX11_become RX11 (some .int) "become" 0 0 0 0) (S : KS) (y0 : Int32) (h : w_X11_become_B42 cy tE post S y0) : Z p l e R s m args below meth c D A 3 (MQ below (QI D (U := KS) post (kw cy a rw) A) args s 0 0 A) 0 0 (kw cy a rw S) [] 42 [.int y0] := by
  unfold w_X11_become_B42 at h
  exact z_iret (u := S) b rfl dX11_become_42 h rfl (by decide) (by decide)

def w_X11_become_B24 (cy : Nat → ClassId) (tE : Nat) (post : Int32 → KS → Prop) (S : KS) (x0 : Int32) (x1 : Int32) (y0 : Int32) : Prop :=
  ((y0.toInt = 0 → w_X11_become_B42 cy tE post S 3) ∧ (y0.toInt ≠ 0 → (0 ≤ (((3 : Int32) * x0) + x1).toInt ∧ (((3 : Int32) * x0) + x1).toInt < 18) ∧ w_X11_become_B42 cy tE post S (becI ((((3 : Int32) * x0) + x1).toNatClampNeg))))

set_option maxHeartbeats 4000000 in
set_option maxRecDepth 100000 in
theorem z_X11_become_B24 {p : Program} {l : Launch} {e : Env} {R : Room} {s : State} {m : MethodId} {args : Array Value} {below : List Frame} {meth : Method} {c : Code} {D : va_G} {cy : Nat → ClassId} {T0 tB tE : Nat} {A : Nat → Prop} {a : Nat → Nat} {rw : Nat → Option Nat} (hrw : ∀ i, i < 6 → rw i = some (a (12 + 2 * i))) {post : Int32 → KS → Prop} (b : Bz p R s m args meth c D cy T0 tB tE A 3 cX11_become RX11 (some .int) "become" 0 0 0 0) (S : KS) (x0 : Int32) (x1 : Int32) (y0 : Int32) (h : w_X11_become_B24 cy tE post S x0 x1 y0) : Z p l e R s m args below meth c D A 3 (MQ below (QI D (U := KS) post (kw cy a rw) A) args s 0 0 A) 0 0 (kw cy a rw S) [(0, .int x0), (1, .int x1)] 24 [.int y0] := by
  unfold w_X11_become_B24 at h
  refine z_istore_n (lv' := [(2, .int y0), (0, .int x0), (1, .int x1)]) b dX11_become_24 rfl (by decide) rfl ?_
  refine z_iload_n b dX11_become_25 rfl rfl ?_
  refine y_if_eq (tgt := 41) (xl := y0.toInt) b rfl dX11_become_26 (by decide) (fun c1 => ?_) (fun c1 => ?_)
  · replace h := h.1 c1
    refine z_iconst (v := 3) b dX11_become_41 (by decide) ?_
    refine z_lv0 (lv' := []) [] rfl ?_
    exact z_X11_become_B42 hrw b _ _ h
  · replace h := h.2 c1
    refine z_getB b wf_X11_255 dX11_become_29 ?_
    refine z_iconst (v := 3) b dX11_become_32 (by decide) ?_
    refine z_iload_n b dX11_become_33 rfl rfl ?_
    refine z_imul b dX11_become_34 rfl ?_
    refine z_iload_n b dX11_become_35 rfl rfl ?_
    refine z_iadd b dX11_become_36 rfl ?_
    obtain ⟨g1, h⟩ := h
    refine z_bec (j := (((3 : Int32) * x0) + x1).toNatClampNeg) (v := (becI ((((3 : Int32) * x0) + x1).toNatClampNeg))) b (zx_r g1.1 g1.2) rfl dX11_become_37 ?_
    refine z_goto (tgt := 42) b dX11_become_38 (by decide) ?_
    refine z_lv0 (lv' := []) [] rfl ?_
    exact z_X11_become_B42 hrw b _ _ h

def w_X11_become_B23 (cy : Nat → ClassId) (tE : Nat) (post : Int32 → KS → Prop) (S : KS) (x0 : Int32) (x1 : Int32) : Prop :=
  w_X11_become_B24 cy tE post S x0 x1 0

set_option maxHeartbeats 4000000 in
set_option maxRecDepth 100000 in
theorem z_X11_become_B23 {p : Program} {l : Launch} {e : Env} {R : Room} {s : State} {m : MethodId} {args : Array Value} {below : List Frame} {meth : Method} {c : Code} {D : va_G} {cy : Nat → ClassId} {T0 tB tE : Nat} {A : Nat → Prop} {a : Nat → Nat} {rw : Nat → Option Nat} (hrw : ∀ i, i < 6 → rw i = some (a (12 + 2 * i))) {post : Int32 → KS → Prop} (b : Bz p R s m args meth c D cy T0 tB tE A 3 cX11_become RX11 (some .int) "become" 0 0 0 0) (S : KS) (x0 : Int32) (x1 : Int32) (h : w_X11_become_B23 cy tE post S x0 x1) : Z p l e R s m args below meth c D A 3 (MQ below (QI D (U := KS) post (kw cy a rw) A) args s 0 0 A) 0 0 (kw cy a rw S) [(0, .int x0), (1, .int x1)] 23 [] := by
  unfold w_X11_become_B23 at h
  refine z_iconst (v := 0) b dX11_become_23 (by decide) ?_
  exact z_X11_become_B24 hrw b _ _ _ _ h

def w_X11_become (cy : Nat → ClassId) (tE : Nat) (S : KS) (p0 : Int32) (p1 : Int32) (post : Int32 → KS → Prop) : Prop :=
  ((p0.toInt < 0 → w_X11_become_B23 cy tE post S p0 p1) ∧ (0 ≤ p0.toInt → ((6 ≤ p0.toInt → w_X11_become_B23 cy tE post S p0 p1) ∧ (p0.toInt < 6 → ((p1.toInt < 0 → w_X11_become_B23 cy tE post S p0 p1) ∧ (0 ≤ p1.toInt → ((3 ≤ p1.toInt → w_X11_become_B23 cy tE post S p0 p1) ∧ (p1.toInt < 3 → w_X11_become_B24 cy tE post S p0 p1 1))))))))

set_option maxHeartbeats 4000000 in
set_option maxRecDepth 100000 in
theorem k_X11_become {l : Launch} {D : va_G} {cy : Nat → ClassId} {T0 tB tE : Nat} {a : Nat → Nat} {rw : Nat → Option Nat} (hrw : ∀ i, i < 6 → rw i = some (a (12 + 2 * i))) (S : KS) (p0 : Int32) (p1 : Int32) (post : Int32 → KS → Prop) (h : w_X11_become cy tE S p0 p1 post) : Ct l D cy T0 tB tE yX11_become cX11_become 3 (some .int) 0 0 0 0 (kw cy a rw S) [.int p0, .int p1] (QI D (U := KS) post (kw cy a rw)) := by
  refine Ct.ofZ RX11 "become" [(0, .int p0), (1, .int p1)] rfl rfl rfl rfl (Nat.le_of_ble_eq_true rfl) ?_
  intro p e R s m args below meth c A b
  unfold w_X11_become at h
  refine z_iload_n b dX11_become_0 rfl rfl ?_
  refine y_if_lt (tgt := 23) (xl := p0.toInt) b rfl dX11_become_1 (by decide) (fun c1 => ?_) (fun c1 => ?_)
  · replace h := h.1 c1
    exact z_X11_become_B23 hrw b _ _ _ h
  · replace h := h.2 c1
    refine z_iload_n b dX11_become_4 rfl rfl ?_
    refine z_bipush (v := 6) b dX11_become_5 (by decide) ?_
    refine y_icmp_ge (tgt := 23) (xl := p0.toInt) (yl := 6) b rfl (by decide) dX11_become_7 (by decide) (fun c1 => ?_) (fun c1 => ?_)
    · replace h := h.1 c1
      exact z_X11_become_B23 hrw b _ _ _ h
    · replace h := h.2 c1
      refine z_iload_n b dX11_become_10 rfl rfl ?_
      refine y_if_lt (tgt := 23) (xl := p1.toInt) b rfl dX11_become_11 (by decide) (fun c1 => ?_) (fun c1 => ?_)
      · replace h := h.1 c1
        exact z_X11_become_B23 hrw b _ _ _ h
      · replace h := h.2 c1
        refine z_iload_n b dX11_become_14 rfl rfl ?_
        refine z_iconst (v := 3) b dX11_become_15 (by decide) ?_
        refine y_icmp_ge (tgt := 23) (xl := p1.toInt) (yl := 3) b rfl (by decide) dX11_become_16 (by decide) (fun c1 => ?_) (fun c1 => ?_)
        · replace h := h.1 c1
          exact z_X11_become_B23 hrw b _ _ _ h
        · replace h := h.2 c1
          refine z_iconst (v := 1) b dX11_become_19 (by decide) ?_
          refine z_goto (tgt := 24) b dX11_become_20 (by decide) ?_
          exact z_X11_become_B24 hrw b _ _ _ _ h

def w_X9_packed_F12 (cy : Nat → ClassId) (tE : Nat) (post : Int64 → KS → Prop) (k52 : KS → Nat → Int32 → Int64 → Prop) (k12 : KS → Nat → Int32 → Int32 → Int64 → Int32 → Prop) (S : KS) (x0 : Nat) (x1 : Int32) (x2 : Int32) (x3 : Int64) (x5 : Int32) : Prop :=
  ((3 ≤ x5.toInt → k52 S x0 x1 x3) ∧ (x5.toInt < 3 → (x0 < 5) ∧ (x0 < 5) ∧ (0 ≤ ((40 : Int32) + x5).toInt ∧ ((40 : Int32) + x5).toInt < 51) ∧ w_X11_become cy tE S x1 ((ar S.1 (1 + x0)) ((40 : Int32) + x5).toNatClampNeg) (fun r6 S7 => w_X11_become cy tE S7 x2 x5 (fun r8 S9 => w_X9_ownerShift cy tE S9 r8 (fun r10 S11 => k12 S11 x0 x1 x2 (x3 ||| ((r6 : Int32).toInt64 <<< ((r10 : Int32).toInt64 &&& 63))) (x5 + 1))))))

set_option maxHeartbeats 4000000 in
set_option maxRecDepth 100000 in
theorem z_X9_packed_F12 {p : Program} {l : Launch} {e : Env} {R : Room} {s : State} {m : MethodId} {args : Array Value} {below : List Frame} {meth : Method} {c : Code} {D : va_G} {cy : Nat → ClassId} {T0 tB tE : Nat} {A : Nat → Prop} {a : Nat → Nat} {rw : Nat → Option Nat} (hrw : ∀ i, i < 6 → rw i = some (a (12 + 2 * i))) {post : Int64 → KS → Prop} {k52 : KS → Nat → Int32 → Int64 → Prop} {k12 : KS → Nat → Int32 → Int32 → Int64 → Int32 → Prop} (b : Bz p R s m args meth c D cy T0 tB tE A 10 cX9_packed RX9 (some .long) "packed" 1 22 0 0) (hk52 : ∀ (S : KS) (x0 : Nat) (x1 : Int32) (x3 : Int64), k52 S x0 x1 x3 → Z p l e R s m args below meth c D A 10 (MQ below (QL D (U := KS) post (kw cy a rw) A) args s 0 0 A) 0 0 (kw cy a rw S) [(0, .ref (a (2 + 2 * x0))), (1, .int x1), (3, .long x3)] 52 []) (hk12 : ∀ (S : KS) (x0 : Nat) (x1 : Int32) (x2 : Int32) (x3 : Int64) (x5 : Int32), k12 S x0 x1 x2 x3 x5 → Z p l e R s m args below meth c D A 10 (MQ below (QL D (U := KS) post (kw cy a rw) A) args s 0 0 A) 0 0 (kw cy a rw S) [(0, .ref (a (2 + 2 * x0))), (1, .int x1), (2, .int x2), (3, .long x3), (5, .int x5)] 12 []) (S : KS) (x0 : Nat) (x1 : Int32) (x2 : Int32) (x3 : Int64) (x5 : Int32) (h : w_X9_packed_F12 cy tE post k52 k12 S x0 x1 x2 x3 x5) : Z p l e R s m args below meth c D A 10 (MQ below (QL D (U := KS) post (kw cy a rw) A) args s 0 0 A) 0 0 (kw cy a rw S) [(0, .ref (a (2 + 2 * x0))), (1, .int x1), (2, .int x2), (3, .long x3), (5, .int x5)] 12 [] := by
  unfold w_X9_packed_F12 at h
  refine z_iload b dX9_packed_12 rfl ?_
  refine z_iconst (v := 3) b dX9_packed_14 (by decide) ?_
  refine y_icmp_ge (tgt := 52) (xl := x5.toInt) (yl := 3) b rfl (by decide) dX9_packed_15 (by decide) (fun c1 => ?_) (fun c1 => ?_)
  · replace h := h.1 c1
    refine z_lv0 (lv' := [(0, .ref (a (2 + 2 * x0))), (1, .int x1), (3, .long x3)]) [0, 1, 3] rfl ?_
    exact hk52 _ _ _ _ h
  · replace h := h.2 c1
    refine z_lload_n b dX9_packed_18 rfl rfl ?_
    refine z_iload_n b dX9_packed_19 rfl rfl ?_
    refine z_aload_n b dX9_packed_20 rfl rfl ?_
    obtain ⟨g3, h⟩ := h
    refine z_get (q0 := 2 + 2 * x0) (k9 := 0) (v := .ref (a (3 + 2 * x0))) b (kw_so cy a rw S g3) rfl in_X9 (by decide) wf_X9_11 rfl dX9_packed_21 ?_
    refine z_bipush (v := 40) b dX9_packed_24 (by decide) ?_
    refine z_iload b dX9_packed_26 rfl ?_
    refine z_iadd b dX9_packed_28 rfl ?_
    obtain ⟨g4, h⟩ := h
    obtain ⟨g5, h⟩ := h
    refine y_iald (q0 := 3 + 2 * x0) (j := ((40 : Int32) + x5).toNatClampNeg) (v := ((ar S.1 (1 + x0)) ((40 : Int32) + x5).toNatClampNeg)) b (kw_sr cy a rw S g4) (zx_r g5.1 g5.2) rfl dX9_packed_29 ?_
    refine z_calli b (z_runSN (As := [.int x1, .int ((ar S.1 (1 + x0)) ((40 : Int32) + x5).toNatClampNeg)]) (st := [.long x3]) b (k_X11_become hrw S x1 ((ar S.1 (1 + x0)) ((40 : Int32) + x5).toNatClampNeg) _ h) cf_X11_become (nw_X9_45) ws_X11_become dX9_packed_30 rfl (Nat.le_of_ble_eq_true rfl) ⟨by decide, by decide, Nat.le_of_ble_eq_true rfl, Nat.le_of_ble_eq_true rfl⟩) (fun r6 S7 h => ?_)
    refine z_i2l b dX9_packed_33 rfl ?_
    refine z_iload_n b dX9_packed_34 rfl rfl ?_
    refine z_iload b dX9_packed_35 rfl ?_
    refine z_calli b (z_runSN (As := [.int x2, .int x5]) (st := [.long (r6 : Int32).toInt64, .long x3]) b (k_X11_become hrw S7 x2 x5 _ h) cf_X11_become (nw_X9_45) ws_X11_become dX9_packed_37 rfl (Nat.le_of_ble_eq_true rfl) ⟨by decide, by decide, Nat.le_of_ble_eq_true rfl, Nat.le_of_ble_eq_true rfl⟩) (fun r8 S9 h => ?_)
    refine z_calli b (z_runS (As := [.int r8]) (st := [.long (r6 : Int32).toInt64, .long x3]) b (k_X9_ownerShift hrw S9 r8 _ h) cf_X9_ownerShift wm_X9_49 ws_X9_ownerShift dX9_packed_40 rfl (Nat.le_of_ble_eq_true rfl) ⟨by decide, by decide, Nat.le_of_ble_eq_true rfl, Nat.le_of_ble_eq_true rfl⟩) (fun r10 S11 h => ?_)
    refine z_lshl b dX9_packed_43 rfl ?_
    refine z_lor b dX9_packed_44 rfl ?_
    refine z_lstore_n (lv' := [(3, .long (x3 ||| ((r6 : Int32).toInt64 <<< ((r10 : Int32).toInt64 &&& 63)))), (0, .ref (a (2 + 2 * x0))), (1, .int x1), (2, .int x2), (5, .int x5)]) b dX9_packed_45 rfl (by decide) rfl ?_
    refine z_iinc (k9 := 4) (v := (x5 + 1)) (lv' := [(5, .int (x5 + 1)), (3, .long (x3 ||| ((r6 : Int32).toInt64 <<< ((r10 : Int32).toInt64 &&& 63)))), (0, .ref (a (2 + 2 * x0))), (1, .int x1), (2, .int x2)]) b dX9_packed_46 rfl rfl (by decide) rfl ?_
    refine z_goto (tgt := 12) b dX9_packed_49 (by decide) ?_
    refine z_lv0 (lv' := [(0, .ref (a (2 + 2 * x0))), (1, .int x1), (2, .int x2), (3, .long (x3 ||| ((r6 : Int32).toInt64 <<< ((r10 : Int32).toInt64 &&& 63)))), (5, .int (x5 + 1))]) [2, 3, 4, 1, 0] rfl ?_
    exact hk12 _ _ _ _ _ _ h

set_option maxHeartbeats 4000000 in
set_option maxRecDepth 100000 in
theorem zl_X9_packed_L12 {p : Program} {l : Launch} {e : Env} {R : Room} {s : State} {m : MethodId} {args : Array Value} {below : List Frame} {meth : Method} {c : Code} {D : va_G} {cy : Nat → ClassId} {T0 tB tE : Nat} {A : Nat → Prop} {a : Nat → Nat} {rw : Nat → Option Nat} (hrw : ∀ i, i < 6 → rw i = some (a (12 + 2 * i))) {post : Int64 → KS → Prop} {k52 : KS → Nat → Int32 → Int64 → Prop} (b : Bz p R s m args meth c D cy T0 tB tE A 10 cX9_packed RX9 (some .long) "packed" 1 22 0 0) (hk52 : ∀ (S : KS) (x0 : Nat) (x1 : Int32) (x3 : Int64), k52 S x0 x1 x3 → Z p l e R s m args below meth c D A 10 (MQ below (QL D (U := KS) post (kw cy a rw) A) args s 0 0 A) 0 0 (kw cy a rw S) [(0, .ref (a (2 + 2 * x0))), (1, .int x1), (3, .long x3)] 52 []) : ∀ (n : Nat) (S : KS) (x0 : Nat) (x1 : Int32) (x2 : Int32) (x3 : Int64) (x5 : Int32), lpn (w_X9_packed_F12 cy tE post k52) (fun _ _ _ _ _ _ => False) n S x0 x1 x2 x3 x5 → Z p l e R s m args below meth c D A 10 (MQ below (QL D (U := KS) post (kw cy a rw) A) args s 0 0 A) 0 0 (kw cy a rw S) [(0, .ref (a (2 + 2 * x0))), (1, .int x1), (2, .int x2), (3, .long x3), (5, .int x5)] 12 [] := by
  intro n
  induction n with
  | zero => intro _ _ _ _ _ _ h; exact h.elim
  | succ n ih => intro S x0 x1 x2 x3 x5 h; exact z_X9_packed_F12 hrw b hk52 ih S x0 x1 x2 x3 x5 h

def w_X9_packed_B167 (cy : Nat → ClassId) (tE : Nat) (post : Int64 → KS → Prop) (k89 : KS → Nat → Int32 → Int64 → Int32 → Int32 → Int32 → Prop) (k173 : KS → Nat → Int32 → Int64 → Int32 → Prop) (S : KS) (x0 : Nat) (x1 : Int32) (x3 : Int64) (x5 : Int32) (x6 : Int32) (x7 : Int32) : Prop :=
  k89 S x0 x1 x3 x5 x6 (x7 + 1)

set_option maxHeartbeats 4000000 in
set_option maxRecDepth 100000 in
theorem z_X9_packed_B167 {p : Program} {l : Launch} {e : Env} {R : Room} {s : State} {m : MethodId} {args : Array Value} {below : List Frame} {meth : Method} {c : Code} {D : va_G} {cy : Nat → ClassId} {T0 tB tE : Nat} {A : Nat → Prop} {a : Nat → Nat} {rw : Nat → Option Nat} (hrw : ∀ i, i < 6 → rw i = some (a (12 + 2 * i))) {post : Int64 → KS → Prop} {k89 : KS → Nat → Int32 → Int64 → Int32 → Int32 → Int32 → Prop} {k173 : KS → Nat → Int32 → Int64 → Int32 → Prop} (b : Bz p R s m args meth c D cy T0 tB tE A 10 cX9_packed RX9 (some .long) "packed" 1 22 0 0) (hk89 : ∀ (S : KS) (x0 : Nat) (x1 : Int32) (x3 : Int64) (x5 : Int32) (x6 : Int32) (x7 : Int32), k89 S x0 x1 x3 x5 x6 x7 → Z p l e R s m args below meth c D A 10 (MQ below (QL D (U := KS) post (kw cy a rw) A) args s 0 0 A) 0 0 (kw cy a rw S) [(0, .ref (a (2 + 2 * x0))), (1, .int x1), (3, .long x3), (5, .int x5), (6, .int x6), (7, .int x7)] 89 []) (hk173 : ∀ (S : KS) (x0 : Nat) (x1 : Int32) (x3 : Int64) (x5 : Int32), k173 S x0 x1 x3 x5 → Z p l e R s m args below meth c D A 10 (MQ below (QL D (U := KS) post (kw cy a rw) A) args s 0 0 A) 0 0 (kw cy a rw S) [(0, .ref (a (2 + 2 * x0))), (1, .int x1), (3, .long x3), (5, .int x5)] 173 []) (S : KS) (x0 : Nat) (x1 : Int32) (x3 : Int64) (x5 : Int32) (x6 : Int32) (x7 : Int32) (h : w_X9_packed_B167 cy tE post k89 k173 S x0 x1 x3 x5 x6 x7) : Z p l e R s m args below meth c D A 10 (MQ below (QL D (U := KS) post (kw cy a rw) A) args s 0 0 A) 0 0 (kw cy a rw S) [(0, .ref (a (2 + 2 * x0))), (1, .int x1), (3, .long x3), (5, .int x5), (6, .int x6), (7, .int x7)] 167 [] := by
  unfold w_X9_packed_B167 at h
  refine z_iinc (k9 := 5) (v := (x7 + 1)) (lv' := [(7, .int (x7 + 1)), (0, .ref (a (2 + 2 * x0))), (1, .int x1), (3, .long x3), (5, .int x5), (6, .int x6)]) b dX9_packed_167 rfl rfl (by decide) rfl ?_
  refine z_goto (tgt := 89) b dX9_packed_170 (by decide) ?_
  refine z_lv0 (lv' := [(0, .ref (a (2 + 2 * x0))), (1, .int x1), (3, .long x3), (5, .int x5), (6, .int x6), (7, .int (x7 + 1))]) [1, 2, 3, 4, 5, 0] rfl ?_
  exact hk89 _ _ _ _ _ _ _ h

def w_X9_packed_F89 (cy : Nat → ClassId) (tE : Nat) (post : Int64 → KS → Prop) (k173 : KS → Nat → Int32 → Int64 → Int32 → Prop) (k89 : KS → Nat → Int32 → Int64 → Int32 → Int32 → Int32 → Prop) (S : KS) (x0 : Nat) (x1 : Int32) (x3 : Int64) (x5 : Int32) (x6 : Int32) (x7 : Int32) : Prop :=
  ((3 ≤ x7.toInt → k173 S x0 x1 x3 x5) ∧ (x7.toInt < 3 → ((x7.toInt = x5.toInt → w_X9_packed_B167 cy tE post k89 k173 S x0 x1 x3 x5 x6 x7) ∧ (x7.toInt ≠ x5.toInt → (x0 < 5) ∧ (x0 < 5) ∧ (0 ≤ ((10 : Int32) + (((3 : Int32) * x5) + x7)).toInt ∧ ((10 : Int32) + (((3 : Int32) * x5) + x7)).toInt < 51) ∧ (x0 < 5) ∧ (x0 < 5) ∧ (0 ≤ ((20 : Int32) + (((3 : Int32) * x5) + x7)).toInt ∧ ((20 : Int32) + (((3 : Int32) * x5) + x7)).toInt < 51) ∧ (x0 < 5) ∧ (x0 < 5) ∧ (0 ≤ ((30 : Int32) + (((3 : Int32) * x5) + x7)).toInt ∧ ((30 : Int32) + (((3 : Int32) * x5) + x7)).toInt < 51) ∧ w_X11_become cy tE S x1 x7 (fun r28 S29 => w_X9_pairShift cy tE S29 x6 r28 (fun r30 S31 => w_X9_packed_B167 cy tE post k89 k173 S31 x0 x1 (x3 ||| ((((((ar S.1 (1 + x0)) ((10 : Int32) + (((3 : Int32) * x5) + x7)).toNatClampNeg) ||| (((ar S.1 (1 + x0)) ((20 : Int32) + (((3 : Int32) * x5) + x7)).toNatClampNeg) <<< ((3 : Int32) &&& 31))) ||| (((ar S.1 (1 + x0)) ((30 : Int32) + (((3 : Int32) * x5) + x7)).toNatClampNeg) <<< ((4 : Int32) &&& 31))) : Int32).toInt64 <<< ((r30 : Int32).toInt64 &&& 63))) x5 x6 x7))))))

set_option maxHeartbeats 4000000 in
set_option maxRecDepth 100000 in
theorem z_X9_packed_F89 {p : Program} {l : Launch} {e : Env} {R : Room} {s : State} {m : MethodId} {args : Array Value} {below : List Frame} {meth : Method} {c : Code} {D : va_G} {cy : Nat → ClassId} {T0 tB tE : Nat} {A : Nat → Prop} {a : Nat → Nat} {rw : Nat → Option Nat} (hrw : ∀ i, i < 6 → rw i = some (a (12 + 2 * i))) {post : Int64 → KS → Prop} {k173 : KS → Nat → Int32 → Int64 → Int32 → Prop} {k89 : KS → Nat → Int32 → Int64 → Int32 → Int32 → Int32 → Prop} (b : Bz p R s m args meth c D cy T0 tB tE A 10 cX9_packed RX9 (some .long) "packed" 1 22 0 0) (hk173 : ∀ (S : KS) (x0 : Nat) (x1 : Int32) (x3 : Int64) (x5 : Int32), k173 S x0 x1 x3 x5 → Z p l e R s m args below meth c D A 10 (MQ below (QL D (U := KS) post (kw cy a rw) A) args s 0 0 A) 0 0 (kw cy a rw S) [(0, .ref (a (2 + 2 * x0))), (1, .int x1), (3, .long x3), (5, .int x5)] 173 []) (hk89 : ∀ (S : KS) (x0 : Nat) (x1 : Int32) (x3 : Int64) (x5 : Int32) (x6 : Int32) (x7 : Int32), k89 S x0 x1 x3 x5 x6 x7 → Z p l e R s m args below meth c D A 10 (MQ below (QL D (U := KS) post (kw cy a rw) A) args s 0 0 A) 0 0 (kw cy a rw S) [(0, .ref (a (2 + 2 * x0))), (1, .int x1), (3, .long x3), (5, .int x5), (6, .int x6), (7, .int x7)] 89 []) (S : KS) (x0 : Nat) (x1 : Int32) (x3 : Int64) (x5 : Int32) (x6 : Int32) (x7 : Int32) (h : w_X9_packed_F89 cy tE post k173 k89 S x0 x1 x3 x5 x6 x7) : Z p l e R s m args below meth c D A 10 (MQ below (QL D (U := KS) post (kw cy a rw) A) args s 0 0 A) 0 0 (kw cy a rw S) [(0, .ref (a (2 + 2 * x0))), (1, .int x1), (3, .long x3), (5, .int x5), (6, .int x6), (7, .int x7)] 89 [] := by
  unfold w_X9_packed_F89 at h
  refine z_iload b dX9_packed_89 rfl ?_
  refine z_iconst (v := 3) b dX9_packed_91 (by decide) ?_
  refine y_icmp_ge (tgt := 173) (xl := x7.toInt) (yl := 3) b rfl (by decide) dX9_packed_92 (by decide) (fun c1 => ?_) (fun c1 => ?_)
  · replace h := h.1 c1
    refine z_lv0 (lv' := [(0, .ref (a (2 + 2 * x0))), (1, .int x1), (3, .long x3), (5, .int x5)]) [0, 1, 2, 3] rfl ?_
    exact hk173 _ _ _ _ _ h
  · replace h := h.2 c1
    refine z_iload b dX9_packed_95 rfl ?_
    refine z_iload b dX9_packed_97 rfl ?_
    refine y_icmp_eq (tgt := 167) (xl := x7.toInt) (yl := x5.toInt) b rfl rfl dX9_packed_99 (by decide) (fun c1 => ?_) (fun c1 => ?_)
    · replace h := h.1 c1
      exact z_X9_packed_B167 hrw b hk89 hk173 _ _ _ _ _ _ _ h
    · replace h := h.2 c1
      refine z_iconst (v := 3) b dX9_packed_102 (by decide) ?_
      refine z_iload b dX9_packed_103 rfl ?_
      refine z_imul b dX9_packed_105 rfl ?_
      refine z_iload b dX9_packed_106 rfl ?_
      refine z_iadd b dX9_packed_108 rfl ?_
      refine z_istore (lv' := [(8, .int (((3 : Int32) * x5) + x7)), (0, .ref (a (2 + 2 * x0))), (1, .int x1), (3, .long x3), (5, .int x5), (6, .int x6), (7, .int x7)]) b dX9_packed_109 (by decide) rfl ?_
      refine z_aload_n b dX9_packed_111 rfl rfl ?_
      obtain ⟨g19, h⟩ := h
      refine z_get (q0 := 2 + 2 * x0) (k9 := 0) (v := .ref (a (3 + 2 * x0))) b (kw_so cy a rw S g19) rfl in_X9 (by decide) wf_X9_11 rfl dX9_packed_112 ?_
      refine z_bipush (v := 10) b dX9_packed_115 (by decide) ?_
      refine z_iload b dX9_packed_117 rfl ?_
      refine z_iadd b dX9_packed_119 rfl ?_
      obtain ⟨g20, h⟩ := h
      obtain ⟨g21, h⟩ := h
      refine y_iald (q0 := 3 + 2 * x0) (j := ((10 : Int32) + (((3 : Int32) * x5) + x7)).toNatClampNeg) (v := ((ar S.1 (1 + x0)) ((10 : Int32) + (((3 : Int32) * x5) + x7)).toNatClampNeg)) b (kw_sr cy a rw S g20) (zx_r g21.1 g21.2) rfl dX9_packed_120 ?_
      refine z_aload_n b dX9_packed_121 rfl rfl ?_
      obtain ⟨g22, h⟩ := h
      refine z_get (q0 := 2 + 2 * x0) (k9 := 0) (v := .ref (a (3 + 2 * x0))) b (kw_so cy a rw S g22) rfl in_X9 (by decide) wf_X9_11 rfl dX9_packed_122 ?_
      refine z_bipush (v := 20) b dX9_packed_125 (by decide) ?_
      refine z_iload b dX9_packed_127 rfl ?_
      refine z_iadd b dX9_packed_129 rfl ?_
      obtain ⟨g23, h⟩ := h
      obtain ⟨g24, h⟩ := h
      refine y_iald (q0 := 3 + 2 * x0) (j := ((20 : Int32) + (((3 : Int32) * x5) + x7)).toNatClampNeg) (v := ((ar S.1 (1 + x0)) ((20 : Int32) + (((3 : Int32) * x5) + x7)).toNatClampNeg)) b (kw_sr cy a rw S g23) (zx_r g24.1 g24.2) rfl dX9_packed_130 ?_
      refine z_iconst (v := 3) b dX9_packed_131 (by decide) ?_
      refine z_ishl b dX9_packed_132 rfl ?_
      refine z_ior b dX9_packed_133 rfl ?_
      refine z_aload_n b dX9_packed_134 rfl rfl ?_
      obtain ⟨g25, h⟩ := h
      refine z_get (q0 := 2 + 2 * x0) (k9 := 0) (v := .ref (a (3 + 2 * x0))) b (kw_so cy a rw S g25) rfl in_X9 (by decide) wf_X9_11 rfl dX9_packed_135 ?_
      refine z_bipush (v := 30) b dX9_packed_138 (by decide) ?_
      refine z_iload b dX9_packed_140 rfl ?_
      refine z_iadd b dX9_packed_142 rfl ?_
      obtain ⟨g26, h⟩ := h
      obtain ⟨g27, h⟩ := h
      refine y_iald (q0 := 3 + 2 * x0) (j := ((30 : Int32) + (((3 : Int32) * x5) + x7)).toNatClampNeg) (v := ((ar S.1 (1 + x0)) ((30 : Int32) + (((3 : Int32) * x5) + x7)).toNatClampNeg)) b (kw_sr cy a rw S g26) (zx_r g27.1 g27.2) rfl dX9_packed_143 ?_
      refine z_iconst (v := 4) b dX9_packed_144 (by decide) ?_
      refine z_ishl b dX9_packed_145 rfl ?_
      refine z_ior b dX9_packed_146 rfl ?_
      refine z_istore (lv' := [(9, .int ((((ar S.1 (1 + x0)) ((10 : Int32) + (((3 : Int32) * x5) + x7)).toNatClampNeg) ||| (((ar S.1 (1 + x0)) ((20 : Int32) + (((3 : Int32) * x5) + x7)).toNatClampNeg) <<< ((3 : Int32) &&& 31))) ||| (((ar S.1 (1 + x0)) ((30 : Int32) + (((3 : Int32) * x5) + x7)).toNatClampNeg) <<< ((4 : Int32) &&& 31)))), (8, .int (((3 : Int32) * x5) + x7)), (0, .ref (a (2 + 2 * x0))), (1, .int x1), (3, .long x3), (5, .int x5), (6, .int x6), (7, .int x7)]) b dX9_packed_147 (by decide) rfl ?_
      refine z_lload_n b dX9_packed_149 rfl rfl ?_
      refine z_iload b dX9_packed_150 rfl ?_
      refine z_i2l b dX9_packed_152 rfl ?_
      refine z_iload b dX9_packed_153 rfl ?_
      refine z_iload_n b dX9_packed_155 rfl rfl ?_
      refine z_iload b dX9_packed_156 rfl ?_
      refine z_calli b (z_runSN (As := [.int x1, .int x7]) (st := [.int x6, .long (((((ar S.1 (1 + x0)) ((10 : Int32) + (((3 : Int32) * x5) + x7)).toNatClampNeg) ||| (((ar S.1 (1 + x0)) ((20 : Int32) + (((3 : Int32) * x5) + x7)).toNatClampNeg) <<< ((3 : Int32) &&& 31))) ||| (((ar S.1 (1 + x0)) ((30 : Int32) + (((3 : Int32) * x5) + x7)).toNatClampNeg) <<< ((4 : Int32) &&& 31))) : Int32).toInt64, .long x3]) b (k_X11_become hrw S x1 x7 _ h) cf_X11_become (nw_X9_45) ws_X11_become dX9_packed_158 rfl (Nat.le_of_ble_eq_true rfl) ⟨by decide, by decide, Nat.le_of_ble_eq_true rfl, Nat.le_of_ble_eq_true rfl⟩) (fun r28 S29 h => ?_)
      refine z_calli b (z_runS (As := [.int x6, .int r28]) (st := [.long (((((ar S.1 (1 + x0)) ((10 : Int32) + (((3 : Int32) * x5) + x7)).toNatClampNeg) ||| (((ar S.1 (1 + x0)) ((20 : Int32) + (((3 : Int32) * x5) + x7)).toNatClampNeg) <<< ((3 : Int32) &&& 31))) ||| (((ar S.1 (1 + x0)) ((30 : Int32) + (((3 : Int32) * x5) + x7)).toNatClampNeg) <<< ((4 : Int32) &&& 31))) : Int32).toInt64, .long x3]) b (k_X9_pairShift hrw S29 x6 r28 _ h) cf_X9_pairShift wm_X9_55 ws_X9_pairShift dX9_packed_161 rfl (Nat.le_of_ble_eq_true rfl) ⟨by decide, by decide, Nat.le_of_ble_eq_true rfl, Nat.le_of_ble_eq_true rfl⟩) (fun r30 S31 h => ?_)
      refine z_lshl b dX9_packed_164 rfl ?_
      refine z_lor b dX9_packed_165 rfl ?_
      refine z_lstore_n (lv' := [(3, .long (x3 ||| ((((((ar S.1 (1 + x0)) ((10 : Int32) + (((3 : Int32) * x5) + x7)).toNatClampNeg) ||| (((ar S.1 (1 + x0)) ((20 : Int32) + (((3 : Int32) * x5) + x7)).toNatClampNeg) <<< ((3 : Int32) &&& 31))) ||| (((ar S.1 (1 + x0)) ((30 : Int32) + (((3 : Int32) * x5) + x7)).toNatClampNeg) <<< ((4 : Int32) &&& 31))) : Int32).toInt64 <<< ((r30 : Int32).toInt64 &&& 63)))), (9, .int ((((ar S.1 (1 + x0)) ((10 : Int32) + (((3 : Int32) * x5) + x7)).toNatClampNeg) ||| (((ar S.1 (1 + x0)) ((20 : Int32) + (((3 : Int32) * x5) + x7)).toNatClampNeg) <<< ((3 : Int32) &&& 31))) ||| (((ar S.1 (1 + x0)) ((30 : Int32) + (((3 : Int32) * x5) + x7)).toNatClampNeg) <<< ((4 : Int32) &&& 31)))), (8, .int (((3 : Int32) * x5) + x7)), (0, .ref (a (2 + 2 * x0))), (1, .int x1), (5, .int x5), (6, .int x6), (7, .int x7)]) b dX9_packed_166 rfl (by decide) rfl ?_
      refine z_lv0 (lv' := [(0, .ref (a (2 + 2 * x0))), (1, .int x1), (3, .long (x3 ||| ((((((ar S.1 (1 + x0)) ((10 : Int32) + (((3 : Int32) * x5) + x7)).toNatClampNeg) ||| (((ar S.1 (1 + x0)) ((20 : Int32) + (((3 : Int32) * x5) + x7)).toNatClampNeg) <<< ((3 : Int32) &&& 31))) ||| (((ar S.1 (1 + x0)) ((30 : Int32) + (((3 : Int32) * x5) + x7)).toNatClampNeg) <<< ((4 : Int32) &&& 31))) : Int32).toInt64 <<< ((r30 : Int32).toInt64 &&& 63)))), (5, .int x5), (6, .int x6), (7, .int x7)]) [3, 4, 0, 5, 6, 7] rfl ?_
      exact z_X9_packed_B167 hrw b hk89 hk173 _ _ _ _ _ _ _ h

set_option maxHeartbeats 4000000 in
set_option maxRecDepth 100000 in
theorem zl_X9_packed_L89 {p : Program} {l : Launch} {e : Env} {R : Room} {s : State} {m : MethodId} {args : Array Value} {below : List Frame} {meth : Method} {c : Code} {D : va_G} {cy : Nat → ClassId} {T0 tB tE : Nat} {A : Nat → Prop} {a : Nat → Nat} {rw : Nat → Option Nat} (hrw : ∀ i, i < 6 → rw i = some (a (12 + 2 * i))) {post : Int64 → KS → Prop} {k173 : KS → Nat → Int32 → Int64 → Int32 → Prop} (b : Bz p R s m args meth c D cy T0 tB tE A 10 cX9_packed RX9 (some .long) "packed" 1 22 0 0) (hk173 : ∀ (S : KS) (x0 : Nat) (x1 : Int32) (x3 : Int64) (x5 : Int32), k173 S x0 x1 x3 x5 → Z p l e R s m args below meth c D A 10 (MQ below (QL D (U := KS) post (kw cy a rw) A) args s 0 0 A) 0 0 (kw cy a rw S) [(0, .ref (a (2 + 2 * x0))), (1, .int x1), (3, .long x3), (5, .int x5)] 173 []) : ∀ (n : Nat) (S : KS) (x0 : Nat) (x1 : Int32) (x3 : Int64) (x5 : Int32) (x6 : Int32) (x7 : Int32), lpn (w_X9_packed_F89 cy tE post k173) (fun _ _ _ _ _ _ _ => False) n S x0 x1 x3 x5 x6 x7 → Z p l e R s m args below meth c D A 10 (MQ below (QL D (U := KS) post (kw cy a rw) A) args s 0 0 A) 0 0 (kw cy a rw S) [(0, .ref (a (2 + 2 * x0))), (1, .int x1), (3, .long x3), (5, .int x5), (6, .int x6), (7, .int x7)] 89 [] := by
  intro n
  induction n with
  | zero => intro _ _ _ _ _ _ _ h; exact h.elim
  | succ n ih => intro S x0 x1 x3 x5 x6 x7 h; exact z_X9_packed_F89 hrw b hk173 ih S x0 x1 x3 x5 x6 x7 h

def w_X9_packed_B173 (cy : Nat → ClassId) (tE : Nat) (post : Int64 → KS → Prop) (k55 : KS → Nat → Int32 → Int64 → Int32 → Prop) (k179 : KS → Int64 → Prop) (S : KS) (x0 : Nat) (x1 : Int32) (x3 : Int64) (x5 : Int32) : Prop :=
  k55 S x0 x1 x3 (x5 + 1)

set_option maxHeartbeats 4000000 in
set_option maxRecDepth 100000 in
theorem z_X9_packed_B173 {p : Program} {l : Launch} {e : Env} {R : Room} {s : State} {m : MethodId} {args : Array Value} {below : List Frame} {meth : Method} {c : Code} {D : va_G} {cy : Nat → ClassId} {T0 tB tE : Nat} {A : Nat → Prop} {a : Nat → Nat} {rw : Nat → Option Nat} (hrw : ∀ i, i < 6 → rw i = some (a (12 + 2 * i))) {post : Int64 → KS → Prop} {k55 : KS → Nat → Int32 → Int64 → Int32 → Prop} {k179 : KS → Int64 → Prop} (b : Bz p R s m args meth c D cy T0 tB tE A 10 cX9_packed RX9 (some .long) "packed" 1 22 0 0) (hk55 : ∀ (S : KS) (x0 : Nat) (x1 : Int32) (x3 : Int64) (x5 : Int32), k55 S x0 x1 x3 x5 → Z p l e R s m args below meth c D A 10 (MQ below (QL D (U := KS) post (kw cy a rw) A) args s 0 0 A) 0 0 (kw cy a rw S) [(0, .ref (a (2 + 2 * x0))), (1, .int x1), (3, .long x3), (5, .int x5)] 55 []) (hk179 : ∀ (S : KS) (x3 : Int64), k179 S x3 → Z p l e R s m args below meth c D A 10 (MQ below (QL D (U := KS) post (kw cy a rw) A) args s 0 0 A) 0 0 (kw cy a rw S) [(3, .long x3)] 179 []) (S : KS) (x0 : Nat) (x1 : Int32) (x3 : Int64) (x5 : Int32) (h : w_X9_packed_B173 cy tE post k55 k179 S x0 x1 x3 x5) : Z p l e R s m args below meth c D A 10 (MQ below (QL D (U := KS) post (kw cy a rw) A) args s 0 0 A) 0 0 (kw cy a rw S) [(0, .ref (a (2 + 2 * x0))), (1, .int x1), (3, .long x3), (5, .int x5)] 173 [] := by
  unfold w_X9_packed_B173 at h
  refine z_iinc (k9 := 3) (v := (x5 + 1)) (lv' := [(5, .int (x5 + 1)), (0, .ref (a (2 + 2 * x0))), (1, .int x1), (3, .long x3)]) b dX9_packed_173 rfl rfl (by decide) rfl ?_
  refine z_goto (tgt := 55) b dX9_packed_176 (by decide) ?_
  refine z_lv0 (lv' := [(0, .ref (a (2 + 2 * x0))), (1, .int x1), (3, .long x3), (5, .int (x5 + 1))]) [1, 2, 3, 0] rfl ?_
  exact hk55 _ _ _ _ _ h

def w_X9_packed_F55 (cy : Nat → ClassId) (tE : Nat) (post : Int64 → KS → Prop) (k179 : KS → Int64 → Prop) (k55 : KS → Nat → Int32 → Int64 → Int32 → Prop) (S : KS) (x0 : Nat) (x1 : Int32) (x3 : Int64) (x5 : Int32) : Prop :=
  ((3 ≤ x5.toInt → k179 S x3) ∧ (x5.toInt < 3 → w_X11_become cy tE S x1 x5 (fun r12 S13 => (x0 < 5) ∧ (x0 < 5) ∧ (0 ≤ x5.toInt ∧ x5.toInt < 51) ∧ w_X9_coinShift cy tE S13 r12 (fun r17 S18 => ∃ n, lpn (w_X9_packed_F89 cy tE post (w_X9_packed_B173 cy tE post k55 k179)) (fun _ _ _ _ _ _ _ => False) n S18 x0 x1 (x3 ||| ((((ar S13.1 (1 + x0)) x5.toNatClampNeg) : Int32).toInt64 <<< ((r17 : Int32).toInt64 &&& 63))) x5 r12 0))))

set_option maxHeartbeats 4000000 in
set_option maxRecDepth 100000 in
theorem z_X9_packed_F55 {p : Program} {l : Launch} {e : Env} {R : Room} {s : State} {m : MethodId} {args : Array Value} {below : List Frame} {meth : Method} {c : Code} {D : va_G} {cy : Nat → ClassId} {T0 tB tE : Nat} {A : Nat → Prop} {a : Nat → Nat} {rw : Nat → Option Nat} (hrw : ∀ i, i < 6 → rw i = some (a (12 + 2 * i))) {post : Int64 → KS → Prop} {k179 : KS → Int64 → Prop} {k55 : KS → Nat → Int32 → Int64 → Int32 → Prop} (b : Bz p R s m args meth c D cy T0 tB tE A 10 cX9_packed RX9 (some .long) "packed" 1 22 0 0) (hk179 : ∀ (S : KS) (x3 : Int64), k179 S x3 → Z p l e R s m args below meth c D A 10 (MQ below (QL D (U := KS) post (kw cy a rw) A) args s 0 0 A) 0 0 (kw cy a rw S) [(3, .long x3)] 179 []) (hk55 : ∀ (S : KS) (x0 : Nat) (x1 : Int32) (x3 : Int64) (x5 : Int32), k55 S x0 x1 x3 x5 → Z p l e R s m args below meth c D A 10 (MQ below (QL D (U := KS) post (kw cy a rw) A) args s 0 0 A) 0 0 (kw cy a rw S) [(0, .ref (a (2 + 2 * x0))), (1, .int x1), (3, .long x3), (5, .int x5)] 55 []) (S : KS) (x0 : Nat) (x1 : Int32) (x3 : Int64) (x5 : Int32) (h : w_X9_packed_F55 cy tE post k179 k55 S x0 x1 x3 x5) : Z p l e R s m args below meth c D A 10 (MQ below (QL D (U := KS) post (kw cy a rw) A) args s 0 0 A) 0 0 (kw cy a rw S) [(0, .ref (a (2 + 2 * x0))), (1, .int x1), (3, .long x3), (5, .int x5)] 55 [] := by
  unfold w_X9_packed_F55 at h
  refine z_iload b dX9_packed_55 rfl ?_
  refine z_iconst (v := 3) b dX9_packed_57 (by decide) ?_
  refine y_icmp_ge (tgt := 179) (xl := x5.toInt) (yl := 3) b rfl (by decide) dX9_packed_58 (by decide) (fun c1 => ?_) (fun c1 => ?_)
  · replace h := h.1 c1
    refine z_lv0 (lv' := [(3, .long x3)]) [2] rfl ?_
    exact hk179 _ _ h
  · replace h := h.2 c1
    refine z_iload_n b dX9_packed_61 rfl rfl ?_
    refine z_iload b dX9_packed_62 rfl ?_
    refine z_calli b (z_runSN (As := [.int x1, .int x5]) (st := []) b (k_X11_become hrw S x1 x5 _ h) cf_X11_become (nw_X9_45) ws_X11_become dX9_packed_64 rfl (Nat.le_of_ble_eq_true rfl) ⟨by decide, by decide, Nat.le_of_ble_eq_true rfl, Nat.le_of_ble_eq_true rfl⟩) (fun r12 S13 h => ?_)
    refine z_istore (lv' := [(6, .int r12), (0, .ref (a (2 + 2 * x0))), (1, .int x1), (3, .long x3), (5, .int x5)]) b dX9_packed_67 (by decide) rfl ?_
    refine z_lload_n b dX9_packed_69 rfl rfl ?_
    refine z_aload_n b dX9_packed_70 rfl rfl ?_
    obtain ⟨g14, h⟩ := h
    refine z_get (q0 := 2 + 2 * x0) (k9 := 0) (v := .ref (a (3 + 2 * x0))) b (kw_so cy a rw S13 g14) rfl in_X9 (by decide) wf_X9_11 rfl dX9_packed_71 ?_
    refine z_iload b dX9_packed_74 rfl ?_
    obtain ⟨g15, h⟩ := h
    obtain ⟨g16, h⟩ := h
    refine y_iald (q0 := 3 + 2 * x0) (j := x5.toNatClampNeg) (v := ((ar S13.1 (1 + x0)) x5.toNatClampNeg)) b (kw_sr cy a rw S13 g15) (zx_r g16.1 g16.2) rfl dX9_packed_76 ?_
    refine z_i2l b dX9_packed_77 rfl ?_
    refine z_iload b dX9_packed_78 rfl ?_
    refine z_calli b (z_runS (As := [.int r12]) (st := [.long (((ar S13.1 (1 + x0)) x5.toNatClampNeg) : Int32).toInt64, .long x3]) b (k_X9_coinShift hrw S13 r12 _ h) cf_X9_coinShift wm_X9_52 ws_X9_coinShift dX9_packed_80 rfl (Nat.le_of_ble_eq_true rfl) ⟨by decide, by decide, Nat.le_of_ble_eq_true rfl, Nat.le_of_ble_eq_true rfl⟩) (fun r17 S18 h => ?_)
    refine z_lshl b dX9_packed_83 rfl ?_
    refine z_lor b dX9_packed_84 rfl ?_
    refine z_lstore_n (lv' := [(3, .long (x3 ||| ((((ar S13.1 (1 + x0)) x5.toNatClampNeg) : Int32).toInt64 <<< ((r17 : Int32).toInt64 &&& 63)))), (6, .int r12), (0, .ref (a (2 + 2 * x0))), (1, .int x1), (5, .int x5)]) b dX9_packed_85 rfl (by decide) rfl ?_
    refine z_iconst (v := 0) b dX9_packed_86 (by decide) ?_
    refine z_istore (lv' := [(7, .int 0), (3, .long (x3 ||| ((((ar S13.1 (1 + x0)) x5.toNatClampNeg) : Int32).toInt64 <<< ((r17 : Int32).toInt64 &&& 63)))), (6, .int r12), (0, .ref (a (2 + 2 * x0))), (1, .int x1), (5, .int x5)]) b dX9_packed_87 (by decide) rfl ?_
    refine z_lv0 (lv' := [(0, .ref (a (2 + 2 * x0))), (1, .int x1), (3, .long (x3 ||| ((((ar S13.1 (1 + x0)) x5.toNatClampNeg) : Int32).toInt64 <<< ((r17 : Int32).toInt64 &&& 63)))), (5, .int x5), (6, .int r12), (7, .int 0)]) [3, 4, 1, 5, 2, 0] rfl ?_
    obtain ⟨n, h⟩ := h
    exact zl_X9_packed_L89 hrw b (fun S x0 x1 x3 x5 h => z_X9_packed_B173 hrw b hk55 hk179 _ _ _ _ _ h) n _ _ _ _ _ _ _ h

set_option maxHeartbeats 4000000 in
set_option maxRecDepth 100000 in
theorem zl_X9_packed_L55 {p : Program} {l : Launch} {e : Env} {R : Room} {s : State} {m : MethodId} {args : Array Value} {below : List Frame} {meth : Method} {c : Code} {D : va_G} {cy : Nat → ClassId} {T0 tB tE : Nat} {A : Nat → Prop} {a : Nat → Nat} {rw : Nat → Option Nat} (hrw : ∀ i, i < 6 → rw i = some (a (12 + 2 * i))) {post : Int64 → KS → Prop} {k179 : KS → Int64 → Prop} (b : Bz p R s m args meth c D cy T0 tB tE A 10 cX9_packed RX9 (some .long) "packed" 1 22 0 0) (hk179 : ∀ (S : KS) (x3 : Int64), k179 S x3 → Z p l e R s m args below meth c D A 10 (MQ below (QL D (U := KS) post (kw cy a rw) A) args s 0 0 A) 0 0 (kw cy a rw S) [(3, .long x3)] 179 []) : ∀ (n : Nat) (S : KS) (x0 : Nat) (x1 : Int32) (x3 : Int64) (x5 : Int32), lpn (w_X9_packed_F55 cy tE post k179) (fun _ _ _ _ _ => False) n S x0 x1 x3 x5 → Z p l e R s m args below meth c D A 10 (MQ below (QL D (U := KS) post (kw cy a rw) A) args s 0 0 A) 0 0 (kw cy a rw S) [(0, .ref (a (2 + 2 * x0))), (1, .int x1), (3, .long x3), (5, .int x5)] 55 [] := by
  intro n
  induction n with
  | zero => intro _ _ _ _ _ h; exact h.elim
  | succ n ih => intro S x0 x1 x3 x5 h; exact z_X9_packed_F55 hrw b hk179 ih S x0 x1 x3 x5 h

def w_X9_packed_B179 (cy : Nat → ClassId) (tE : Nat) (post : Int64 → KS → Prop) (S : KS) (x3 : Int64) : Prop :=
  post x3 S

set_option maxHeartbeats 4000000 in
set_option maxRecDepth 100000 in
theorem z_X9_packed_B179 {p : Program} {l : Launch} {e : Env} {R : Room} {s : State} {m : MethodId} {args : Array Value} {below : List Frame} {meth : Method} {c : Code} {D : va_G} {cy : Nat → ClassId} {T0 tB tE : Nat} {A : Nat → Prop} {a : Nat → Nat} {rw : Nat → Option Nat} (hrw : ∀ i, i < 6 → rw i = some (a (12 + 2 * i))) {post : Int64 → KS → Prop} (b : Bz p R s m args meth c D cy T0 tB tE A 10 cX9_packed RX9 (some .long) "packed" 1 22 0 0) (S : KS) (x3 : Int64) (h : w_X9_packed_B179 cy tE post S x3) : Z p l e R s m args below meth c D A 10 (MQ below (QL D (U := KS) post (kw cy a rw) A) args s 0 0 A) 0 0 (kw cy a rw S) [(3, .long x3)] 179 [] := by
  unfold w_X9_packed_B179 at h
  refine z_lload_n b dX9_packed_179 rfl rfl ?_
  exact z_lret (u := S) b rfl dX9_packed_180 h rfl (by decide) (by decide)

def w_X9_packed_B52 (cy : Nat → ClassId) (tE : Nat) (post : Int64 → KS → Prop) (S : KS) (x0 : Nat) (x1 : Int32) (x3 : Int64) : Prop :=
  ∃ n, lpn (w_X9_packed_F55 cy tE post (w_X9_packed_B179 cy tE post)) (fun _ _ _ _ _ => False) n S x0 x1 x3 0

set_option maxHeartbeats 4000000 in
set_option maxRecDepth 100000 in
theorem z_X9_packed_B52 {p : Program} {l : Launch} {e : Env} {R : Room} {s : State} {m : MethodId} {args : Array Value} {below : List Frame} {meth : Method} {c : Code} {D : va_G} {cy : Nat → ClassId} {T0 tB tE : Nat} {A : Nat → Prop} {a : Nat → Nat} {rw : Nat → Option Nat} (hrw : ∀ i, i < 6 → rw i = some (a (12 + 2 * i))) {post : Int64 → KS → Prop} (b : Bz p R s m args meth c D cy T0 tB tE A 10 cX9_packed RX9 (some .long) "packed" 1 22 0 0) (S : KS) (x0 : Nat) (x1 : Int32) (x3 : Int64) (h : w_X9_packed_B52 cy tE post S x0 x1 x3) : Z p l e R s m args below meth c D A 10 (MQ below (QL D (U := KS) post (kw cy a rw) A) args s 0 0 A) 0 0 (kw cy a rw S) [(0, .ref (a (2 + 2 * x0))), (1, .int x1), (3, .long x3)] 52 [] := by
  unfold w_X9_packed_B52 at h
  refine z_iconst (v := 0) b dX9_packed_52 (by decide) ?_
  refine z_istore (lv' := [(5, .int 0), (0, .ref (a (2 + 2 * x0))), (1, .int x1), (3, .long x3)]) b dX9_packed_53 (by decide) rfl ?_
  refine z_lv0 (lv' := [(0, .ref (a (2 + 2 * x0))), (1, .int x1), (3, .long x3), (5, .int 0)]) [1, 2, 3, 0] rfl ?_
  obtain ⟨n, h⟩ := h
  exact zl_X9_packed_L55 hrw b (fun S x3 h => z_X9_packed_B179 hrw b _ _ h) n _ _ _ _ _ h

def w_X9_packed (cy : Nat → ClassId) (tE : Nat) (S : KS) (p9 : Nat) (p0 : Int32) (p1 : Int32) (post : Int64 → KS → Prop) : Prop :=
  (p9 < 5) ∧ (p9 < 5) ∧ ∃ n, lpn (w_X9_packed_F12 cy tE post (w_X9_packed_B52 cy tE post)) (fun _ _ _ _ _ _ => False) n S p9 p0 p1 ((((ar S.1 (1 + p9)) 50) : Int32).toInt64) 0

set_option maxHeartbeats 4000000 in
set_option maxRecDepth 100000 in
theorem k_X9_packed {l : Launch} {D : va_G} {cy : Nat → ClassId} {T0 tB tE : Nat} {a : Nat → Nat} {rw : Nat → Option Nat} (hrw : ∀ i, i < 6 → rw i = some (a (12 + 2 * i))) (S : KS) (p9 : Nat) (p0 : Int32) (p1 : Int32) (post : Int64 → KS → Prop) (h : w_X9_packed cy tE S p9 p0 p1 post) : Ct l D cy T0 tB tE yX9_packed cX9_packed 10 (some .long) 1 22 0 0 (kw cy a rw S) [.ref (a (2 + 2 * p9)), .int p0, .int p1] (QL D (U := KS) post (kw cy a rw)) := by
  refine Ct.ofZ RX9 "packed" [(0, .ref (a (2 + 2 * p9))), (1, .int p0), (2, .int p1)] rfl rfl rfl rfl (Nat.le_of_ble_eq_true rfl) ?_
  intro p e R s m args below meth c A b
  unfold w_X9_packed at h
  refine z_aload_n b dX9_packed_0 rfl rfl ?_
  obtain ⟨g1, h⟩ := h
  refine z_get (q0 := 2 + 2 * p9) (k9 := 0) (v := .ref (a (3 + 2 * p9))) b (kw_so cy a rw S g1) rfl in_X9 (by decide) wf_X9_11 rfl dX9_packed_1 ?_
  refine z_bipush (v := 50) b dX9_packed_4 (by decide) ?_
  obtain ⟨g2, h⟩ := h
  refine y_iald (q0 := 3 + 2 * p9) (j := 50) (v := ((ar S.1 (1 + p9)) 50)) b (kw_sr cy a rw S g2) (by decide) rfl dX9_packed_6 ?_
  refine z_i2l b dX9_packed_7 rfl ?_
  refine z_lstore_n (lv' := [(3, .long (((ar S.1 (1 + p9)) 50) : Int32).toInt64), (0, .ref (a (2 + 2 * p9))), (1, .int p0), (2, .int p1)]) b dX9_packed_8 rfl (by decide) rfl ?_
  refine z_iconst (v := 0) b dX9_packed_9 (by decide) ?_
  refine z_istore (lv' := [(5, .int 0), (3, .long (((ar S.1 (1 + p9)) 50) : Int32).toInt64), (0, .ref (a (2 + 2 * p9))), (1, .int p0), (2, .int p1)]) b dX9_packed_10 (by decide) rfl ?_
  refine z_lv0 (lv' := [(0, .ref (a (2 + 2 * p9))), (1, .int p0), (2, .int p1), (3, .long (((ar S.1 (1 + p9)) 50) : Int32).toInt64), (5, .int 0)]) [2, 3, 4, 1, 0] rfl ?_
  obtain ⟨n, h⟩ := h
  exact zl_X9_packed_L12 hrw b (fun S x0 x1 x3 h => z_X9_packed_B52 hrw b _ _ _ _ h) n _ _ _ _ _ _ h

def w_X8_slotOf_B67 (cy : Nat → ClassId) (tE : Nat) (post : Int32 → KS → Prop) (k13 : KS → Int64 → Int32 → Int32 → Prop) (k76 : KS → Prop) (S : KS) (x5 : Int32) : Prop :=
  post x5 S

set_option maxHeartbeats 4000000 in
set_option maxRecDepth 100000 in
theorem z_X8_slotOf_B67 {p : Program} {l : Launch} {e : Env} {R : Room} {s : State} {m : MethodId} {args : Array Value} {below : List Frame} {meth : Method} {c : Code} {D : va_G} {cy : Nat → ClassId} {T0 tB tE : Nat} {A : Nat → Prop} {a : Nat → Nat} {rw : Nat → Option Nat} (hrw : ∀ i, i < 6 → rw i = some (a (12 + 2 * i))) {post : Int32 → KS → Prop} {k13 : KS → Int64 → Int32 → Int32 → Prop} {k76 : KS → Prop} (b : Bz p R s m args meth c D cy T0 tB tE A 7 cX8_slotOf RX8 (some .int) "slotOf" 0 0 0 0) (hk13 : ∀ (S : KS) (x1 : Int64) (x3 : Int32) (x4 : Int32), k13 S x1 x3 x4 → Z p l e R s m args below meth c D A 7 (MQ below (QI D (U := KS) post (kw cy a rw) A) args s 0 0 A) 0 0 (kw cy a rw S) [(0, .ref (a 38)), (1, .long x1), (3, .int x3), (4, .int x4)] 13 []) (hk76 : ∀ (S : KS), k76 S → Z p l e R s m args below meth c D A 7 (MQ below (QI D (U := KS) post (kw cy a rw) A) args s 0 0 A) 0 0 (kw cy a rw S) [] 76 []) (S : KS) (x5 : Int32) (h : w_X8_slotOf_B67 cy tE post k13 k76 S x5) : Z p l e R s m args below meth c D A 7 (MQ below (QI D (U := KS) post (kw cy a rw) A) args s 0 0 A) 0 0 (kw cy a rw S) [(5, .int x5)] 67 [] := by
  unfold w_X8_slotOf_B67 at h
  refine z_iload b dX8_slotOf_67 rfl ?_
  exact z_iret (u := S) b rfl dX8_slotOf_69 h rfl (by decide) (by decide)

def w_X8_slotOf_F13 (cy : Nat → ClassId) (tE : Nat) (post : Int32 → KS → Prop) (k76 : KS → Prop) (k13 : KS → Int64 → Int32 → Int32 → Prop) (S : KS) (x1 : Int64) (x3 : Int32) (x4 : Int32) : Prop :=
  ((1024 ≤ x4.toInt → k76 S) ∧ (x4.toInt < 1024 → (0 ≤ ((x3 + x4) &&& 1023).toInt ∧ ((x3 + x4) &&& 1023).toInt < 1024) ∧ (((((ar S.1 20) ((x3 + x4) &&& 1023).toNatClampNeg) - 1).toInt < 0 → w_X8_slotOf_B67 cy tE post k13 k76 S ((x3 + x4) &&& 1023)) ∧ (0 ≤ (((ar S.1 20) ((x3 + x4) &&& 1023).toNatClampNeg) - 1).toInt → ((400 ≤ (((ar S.1 20) ((x3 + x4) &&& 1023).toNatClampNeg) - 1).toInt → w_X8_slotOf_B67 cy tE post k13 k76 S ((x3 + x4) &&& 1023)) ∧ ((((ar S.1 20) ((x3 + x4) &&& 1023).toNatClampNeg) - 1).toInt < 400 → (0 ≤ (((ar S.1 20) ((x3 + x4) &&& 1023).toNatClampNeg) - 1).toInt ∧ (((ar S.1 20) ((x3 + x4) &&& 1023).toNatClampNeg) - 1).toInt < 400) ∧ (((lg_cmp ((al S.1 2) (((ar S.1 20) ((x3 + x4) &&& 1023).toNatClampNeg) - 1).toNatClampNeg) x1).toInt ≠ 0 → k13 S x1 x3 (x4 + 1)) ∧ ((lg_cmp ((al S.1 2) (((ar S.1 20) ((x3 + x4) &&& 1023).toNatClampNeg) - 1).toNatClampNeg) x1).toInt = 0 → w_X8_slotOf_B67 cy tE post k13 k76 S ((x3 + x4) &&& 1023)))))))))

set_option maxHeartbeats 4000000 in
set_option maxRecDepth 100000 in
theorem z_X8_slotOf_F13 {p : Program} {l : Launch} {e : Env} {R : Room} {s : State} {m : MethodId} {args : Array Value} {below : List Frame} {meth : Method} {c : Code} {D : va_G} {cy : Nat → ClassId} {T0 tB tE : Nat} {A : Nat → Prop} {a : Nat → Nat} {rw : Nat → Option Nat} (hrw : ∀ i, i < 6 → rw i = some (a (12 + 2 * i))) {post : Int32 → KS → Prop} {k76 : KS → Prop} {k13 : KS → Int64 → Int32 → Int32 → Prop} (b : Bz p R s m args meth c D cy T0 tB tE A 7 cX8_slotOf RX8 (some .int) "slotOf" 0 0 0 0) (hk76 : ∀ (S : KS), k76 S → Z p l e R s m args below meth c D A 7 (MQ below (QI D (U := KS) post (kw cy a rw) A) args s 0 0 A) 0 0 (kw cy a rw S) [] 76 []) (hk13 : ∀ (S : KS) (x1 : Int64) (x3 : Int32) (x4 : Int32), k13 S x1 x3 x4 → Z p l e R s m args below meth c D A 7 (MQ below (QI D (U := KS) post (kw cy a rw) A) args s 0 0 A) 0 0 (kw cy a rw S) [(0, .ref (a 38)), (1, .long x1), (3, .int x3), (4, .int x4)] 13 []) (S : KS) (x1 : Int64) (x3 : Int32) (x4 : Int32) (h : w_X8_slotOf_F13 cy tE post k76 k13 S x1 x3 x4) : Z p l e R s m args below meth c D A 7 (MQ below (QI D (U := KS) post (kw cy a rw) A) args s 0 0 A) 0 0 (kw cy a rw S) [(0, .ref (a 38)), (1, .long x1), (3, .int x3), (4, .int x4)] 13 [] := by
  unfold w_X8_slotOf_F13 at h
  refine z_iload b dX8_slotOf_13 rfl ?_
  refine z_sipush (v := 1024) b dX8_slotOf_15 (by decide) ?_
  refine y_icmp_ge (tgt := 76) (xl := x4.toInt) (yl := 1024) b rfl (by decide) dX8_slotOf_18 (by decide) (fun c1 => ?_) (fun c1 => ?_)
  · replace h := h.1 c1
    refine z_lv0 (lv' := []) [] rfl ?_
    exact hk76 _ h
  · replace h := h.2 c1
    refine z_iload_n b dX8_slotOf_21 rfl rfl ?_
    refine z_iload b dX8_slotOf_22 rfl ?_
    refine z_iadd b dX8_slotOf_24 rfl ?_
    refine z_sipush (v := 1023) b dX8_slotOf_25 (by decide) ?_
    refine z_iand b dX8_slotOf_28 rfl ?_
    refine z_istore (lv' := [(5, .int ((x3 + x4) &&& 1023)), (0, .ref (a 38)), (1, .long x1), (3, .int x3), (4, .int x4)]) b dX8_slotOf_29 (by decide) rfl ?_
    refine z_aload_n b dX8_slotOf_31 rfl rfl ?_
    refine z_get (q0 := 38) (k9 := 7) (v := .ref (a 43)) b (kw_38 cy a rw S) rfl in_X8 (by decide) wf_X8_32 rfl dX8_slotOf_32 ?_
    refine z_iload b dX8_slotOf_35 rfl ?_
    obtain ⟨g1, h⟩ := h
    refine y_iald (q0 := 43) (j := ((x3 + x4) &&& 1023).toNatClampNeg) (v := ((ar S.1 20) ((x3 + x4) &&& 1023).toNatClampNeg)) b (kw_43 cy a rw S) (zx_r g1.1 g1.2) rfl dX8_slotOf_37 ?_
    refine z_iconst (v := 1) b dX8_slotOf_38 (by decide) ?_
    refine z_isub b dX8_slotOf_39 rfl ?_
    refine z_istore (lv' := [(6, .int (((ar S.1 20) ((x3 + x4) &&& 1023).toNatClampNeg) - 1)), (5, .int ((x3 + x4) &&& 1023)), (0, .ref (a 38)), (1, .long x1), (3, .int x3), (4, .int x4)]) b dX8_slotOf_40 (by decide) rfl ?_
    refine z_iload b dX8_slotOf_42 rfl ?_
    refine y_if_lt (tgt := 67) (xl := (((ar S.1 20) ((x3 + x4) &&& 1023).toNatClampNeg) - 1).toInt) b rfl dX8_slotOf_44 (by decide) (fun c1 => ?_) (fun c1 => ?_)
    · replace h := h.1 c1
      refine z_lv0 (lv' := [(5, .int ((x3 + x4) &&& 1023))]) [1] rfl ?_
      exact z_X8_slotOf_B67 hrw b hk13 hk76 _ _ h
    · replace h := h.2 c1
      refine z_iload b dX8_slotOf_47 rfl ?_
      refine z_sipush (v := 400) b dX8_slotOf_49 (by decide) ?_
      refine y_icmp_ge (tgt := 67) (xl := (((ar S.1 20) ((x3 + x4) &&& 1023).toNatClampNeg) - 1).toInt) (yl := 400) b rfl (by decide) dX8_slotOf_52 (by decide) (fun c1 => ?_) (fun c1 => ?_)
      · replace h := h.1 c1
        refine z_lv0 (lv' := [(5, .int ((x3 + x4) &&& 1023))]) [1] rfl ?_
        exact z_X8_slotOf_B67 hrw b hk13 hk76 _ _ h
      · replace h := h.2 c1
        refine z_aload_n b dX8_slotOf_55 rfl rfl ?_
        refine z_get (q0 := 38) (k9 := 3) (v := .ref (a 39)) b (kw_38 cy a rw S) rfl in_X8 (by decide) wf_X8_18 rfl dX8_slotOf_56 ?_
        refine z_iload b dX8_slotOf_59 rfl ?_
        obtain ⟨g2, h⟩ := h
        refine y_lald (q0 := 39) (j := (((ar S.1 20) ((x3 + x4) &&& 1023).toNatClampNeg) - 1).toNatClampNeg) (v := ((al S.1 2) (((ar S.1 20) ((x3 + x4) &&& 1023).toNatClampNeg) - 1).toNatClampNeg)) b (kw_39 cy a rw S) (zx_r g2.1 g2.2) rfl dX8_slotOf_61 ?_
        refine z_lload_n b dX8_slotOf_62 rfl rfl ?_
        refine z_lcmp b dX8_slotOf_63 rfl ?_
        refine y_if_ne (tgt := 70) (xl := (lg_cmp ((al S.1 2) (((ar S.1 20) ((x3 + x4) &&& 1023).toNatClampNeg) - 1).toNatClampNeg) x1).toInt) b rfl dX8_slotOf_64 (by decide) (fun c1 => ?_) (fun c1 => ?_)
        · replace h := h.1 c1
          refine z_iinc (k9 := 5) (v := (x4 + 1)) (lv' := [(4, .int (x4 + 1)), (6, .int (((ar S.1 20) ((x3 + x4) &&& 1023).toNatClampNeg) - 1)), (5, .int ((x3 + x4) &&& 1023)), (0, .ref (a 38)), (1, .long x1), (3, .int x3)]) b dX8_slotOf_70 rfl rfl (by decide) rfl ?_
          refine z_goto (tgt := 13) b dX8_slotOf_73 (by decide) ?_
          refine z_lv0 (lv' := [(0, .ref (a 38)), (1, .long x1), (3, .int x3), (4, .int (x4 + 1))]) [3, 4, 5, 0] rfl ?_
          exact hk13 _ _ _ _ h
        · replace h := h.2 c1
          refine z_lv0 (lv' := [(5, .int ((x3 + x4) &&& 1023))]) [1] rfl ?_
          exact z_X8_slotOf_B67 hrw b hk13 hk76 _ _ h

set_option maxHeartbeats 4000000 in
set_option maxRecDepth 100000 in
theorem zl_X8_slotOf_L13 {p : Program} {l : Launch} {e : Env} {R : Room} {s : State} {m : MethodId} {args : Array Value} {below : List Frame} {meth : Method} {c : Code} {D : va_G} {cy : Nat → ClassId} {T0 tB tE : Nat} {A : Nat → Prop} {a : Nat → Nat} {rw : Nat → Option Nat} (hrw : ∀ i, i < 6 → rw i = some (a (12 + 2 * i))) {post : Int32 → KS → Prop} {k76 : KS → Prop} (b : Bz p R s m args meth c D cy T0 tB tE A 7 cX8_slotOf RX8 (some .int) "slotOf" 0 0 0 0) (hk76 : ∀ (S : KS), k76 S → Z p l e R s m args below meth c D A 7 (MQ below (QI D (U := KS) post (kw cy a rw) A) args s 0 0 A) 0 0 (kw cy a rw S) [] 76 []) : ∀ (n : Nat) (S : KS) (x1 : Int64) (x3 : Int32) (x4 : Int32), lpn (w_X8_slotOf_F13 cy tE post k76) (fun _ _ _ _ => False) n S x1 x3 x4 → Z p l e R s m args below meth c D A 7 (MQ below (QI D (U := KS) post (kw cy a rw) A) args s 0 0 A) 0 0 (kw cy a rw S) [(0, .ref (a 38)), (1, .long x1), (3, .int x3), (4, .int x4)] 13 [] := by
  intro n
  induction n with
  | zero => intro _ _ _ _ h; exact h.elim
  | succ n ih => intro S x1 x3 x4 h; exact z_X8_slotOf_F13 hrw b hk76 ih S x1 x3 x4 h

def w_X8_slotOf_B76 (cy : Nat → ClassId) (tE : Nat) (post : Int32 → KS → Prop) (S : KS)  : Prop :=
  post 0 S

set_option maxHeartbeats 4000000 in
set_option maxRecDepth 100000 in
theorem z_X8_slotOf_B76 {p : Program} {l : Launch} {e : Env} {R : Room} {s : State} {m : MethodId} {args : Array Value} {below : List Frame} {meth : Method} {c : Code} {D : va_G} {cy : Nat → ClassId} {T0 tB tE : Nat} {A : Nat → Prop} {a : Nat → Nat} {rw : Nat → Option Nat} (hrw : ∀ i, i < 6 → rw i = some (a (12 + 2 * i))) {post : Int32 → KS → Prop} (b : Bz p R s m args meth c D cy T0 tB tE A 7 cX8_slotOf RX8 (some .int) "slotOf" 0 0 0 0) (S : KS)  (h : w_X8_slotOf_B76 cy tE post S ) : Z p l e R s m args below meth c D A 7 (MQ below (QI D (U := KS) post (kw cy a rw) A) args s 0 0 A) 0 0 (kw cy a rw S) [] 76 [] := by
  unfold w_X8_slotOf_B76 at h
  refine z_iconst (v := 0) b dX8_slotOf_76 (by decide) ?_
  exact z_iret (u := S) b rfl dX8_slotOf_77 h rfl (by decide) (by decide)

def w_X8_slotOf (cy : Nat → ClassId) (tE : Nat) (S : KS) (p0 : Int64) (post : Int32 → KS → Prop) : Prop :=
  ∃ n, lpn (w_X8_slotOf_F13 cy tE post (w_X8_slotOf_B76 cy tE post)) (fun _ _ _ _ => False) n S p0 (((((p0 * (-7046029254386353131))).toUInt64 >>> ((54 : Int32).toInt64.toUInt64 &&& Int64.toUInt64 63)).toInt64 : Int64).toInt32) 0

set_option maxHeartbeats 4000000 in
set_option maxRecDepth 100000 in
theorem k_X8_slotOf {l : Launch} {D : va_G} {cy : Nat → ClassId} {T0 tB tE : Nat} {a : Nat → Nat} {rw : Nat → Option Nat} (hrw : ∀ i, i < 6 → rw i = some (a (12 + 2 * i))) (S : KS) (p0 : Int64) (post : Int32 → KS → Prop) (h : w_X8_slotOf cy tE S p0 post) : Ct l D cy T0 tB tE yX8_slotOf cX8_slotOf 7 (some .int) 0 0 0 0 (kw cy a rw S) [.ref (a 38), .long p0] (QI D (U := KS) post (kw cy a rw)) := by
  refine Ct.ofZ RX8 "slotOf" [(0, .ref (a 38)), (1, .long p0)] rfl rfl rfl rfl (Nat.le_of_ble_eq_true rfl) ?_
  intro p e R s m args below meth c A b
  unfold w_X8_slotOf at h
  refine z_lload_n b dX8_slotOf_0 rfl rfl ?_
  refine z_ldc2 b wl_X8_120 dX8_slotOf_1 ?_
  refine z_lmul b dX8_slotOf_4 rfl ?_
  refine z_bipush (v := 54) b dX8_slotOf_5 (by decide) ?_
  refine z_lushr b dX8_slotOf_7 rfl ?_
  refine z_l2i b dX8_slotOf_8 rfl ?_
  refine z_istore_n (lv' := [(3, .int ((((p0 * (-7046029254386353131))).toUInt64 >>> ((54 : Int32).toInt64.toUInt64 &&& Int64.toUInt64 63)).toInt64 : Int64).toInt32), (0, .ref (a 38)), (1, .long p0)]) b dX8_slotOf_9 rfl (by decide) rfl ?_
  refine z_iconst (v := 0) b dX8_slotOf_10 (by decide) ?_
  refine z_istore (lv' := [(4, .int 0), (3, .int ((((p0 * (-7046029254386353131))).toUInt64 >>> ((54 : Int32).toInt64.toUInt64 &&& Int64.toUInt64 63)).toInt64 : Int64).toInt32), (0, .ref (a 38)), (1, .long p0)]) b dX8_slotOf_11 (by decide) rfl ?_
  refine z_lv0 (lv' := [(0, .ref (a 38)), (1, .long p0), (3, .int ((((p0 * (-7046029254386353131))).toUInt64 >>> ((54 : Int32).toInt64.toUInt64 &&& Int64.toUInt64 63)).toInt64 : Int64).toInt32), (4, .int 0)]) [2, 3, 1, 0] rfl ?_
  obtain ⟨n, h⟩ := h
  exact zl_X8_slotOf_L13 hrw b (fun S h => z_X8_slotOf_B76 hrw b _ h) n _ _ _ _ h

def w_X8_meet_B89 (cy : Nat → ClassId) (tE : Nat) (post : KS → Prop) (S : KS) (x5 : Int32) (y0 : Int32) (y1 : Int32) : Prop :=
  (0 ≤ y1.toInt ∧ y1.toInt < 400) ∧ (0 ≤ x5.toInt ∧ x5.toInt < 1024) ∧ post (ksu (ksi (ksu S 17 (y1.toNatClampNeg) y0) 33 ((fi S.1 33) + 1)) 20 (x5.toNatClampNeg) ((fi S.1 33) + 1))

set_option maxHeartbeats 4000000 in
set_option maxRecDepth 100000 in
theorem z_X8_meet_B89 {p : Program} {l : Launch} {e : Env} {R : Room} {s : State} {m : MethodId} {args : Array Value} {below : List Frame} {meth : Method} {c : Code} {D : va_G} {cy : Nat → ClassId} {T0 tB tE : Nat} {A : Nat → Prop} {a : Nat → Nat} {rw : Nat → Option Nat} (hrw : ∀ i, i < 6 → rw i = some (a (12 + 2 * i))) {post : KS → Prop} (b : Bz p R s m args meth c D cy T0 tB tE A 6 cX8_meet RX8 none "meet" 1 26 0 0) (S : KS) (x5 : Int32) (y0 : Int32) (y1 : Int32) (h : w_X8_meet_B89 cy tE post S x5 y0 y1) : Z p l e R s m args below meth c D A 6 (MQ below (QV D (U := KS) post (kw cy a rw) A) args s 0 0 A) 0 0 (kw cy a rw S) [(0, .ref (a 38)), (5, .int x5)] 89 [.int y0, .int y1, .ref (a 40)] := by
  unfold w_X8_meet_B89 at h
  obtain ⟨g9, h⟩ := h
  refine y_iast (q0 := 40) (j := y1.toNatClampNeg) b (kw_40 cy a rw S) (zx_r g9.1 g9.2) dX8_meet_89 (kwa_40 cy a rw S (y1.toNatClampNeg) y0) ?_
  refine z_aload_n b dX8_meet_90 rfl rfl ?_
  refine z_dup b dX8_meet_91 rfl ?_
  refine z_get (q0 := 38) (k9 := 17) (v := .int (fi S.1 33)) b (kw_38 cy a rw (ksu S 17 (y1.toNatClampNeg) y0)) rfl in_X8 (by decide) wf_X8_64 rfl dX8_meet_92 ?_
  refine z_iconst (v := 1) b dX8_meet_95 (by decide) ?_
  refine z_iadd b dX8_meet_96 rfl ?_
  refine z_put (q0 := 38) (k9 := 17) tyX8 b (kw_38 cy a rw (ksu S 17 (y1.toNatClampNeg) y0)) rfl in_X8 tyX8_ok nmX8 (by decide) wf_X8_64 rfl rfl rfl rfl (Nat.le_of_ble_eq_true rfl) dX8_meet_97 (kwp_38_17 cy a rw (ksu S 17 (y1.toNatClampNeg) y0) ((fi S.1 33) + 1)) ?_
  refine z_aload_n b dX8_meet_100 rfl rfl ?_
  refine z_get (q0 := 38) (k9 := 7) (v := .ref (a 43)) b (kw_38 cy a rw (ksi (ksu S 17 (y1.toNatClampNeg) y0) 33 ((fi S.1 33) + 1))) rfl in_X8 (by decide) wf_X8_32 rfl dX8_meet_101 ?_
  refine z_iload b dX8_meet_104 rfl ?_
  refine z_aload_n b dX8_meet_106 rfl rfl ?_
  refine z_get (q0 := 38) (k9 := 17) (v := .int ((fi S.1 33) + 1)) b (kw_38 cy a rw (ksi (ksu S 17 (y1.toNatClampNeg) y0) 33 ((fi S.1 33) + 1))) rfl in_X8 (by decide) wf_X8_64 rfl dX8_meet_107 ?_
  obtain ⟨g10, h⟩ := h
  refine y_iast (q0 := 43) (j := x5.toNatClampNeg) b (kw_43 cy a rw (ksi (ksu S 17 (y1.toNatClampNeg) y0) 33 ((fi S.1 33) + 1))) (zx_r g10.1 g10.2) dX8_meet_110 (kwa_43 cy a rw (ksi (ksu S 17 (y1.toNatClampNeg) y0) 33 ((fi S.1 33) + 1)) (x5.toNatClampNeg) ((fi S.1 33) + 1)) ?_
  exact z_vret (u := (ksu (ksi (ksu S 17 (y1.toNatClampNeg) y0) 33 ((fi S.1 33) + 1)) 20 (x5.toNatClampNeg) ((fi S.1 33) + 1))) b rfl dX8_meet_111 h rfl (by decide) (by decide)

def w_X8_meet (cy : Nat → ClassId) (tE : Nat) (S : KS) (p0 : Int64) (p1 : Int32) (p2 : Int32) (post : KS → Prop) : Prop :=
  w_X8_slotOf cy tE S p0 (fun r1 S2 => (0 ≤ r1.toInt ∧ r1.toInt < 1024) ∧ ((((ar S2.1 20) r1.toNatClampNeg).toInt = 0 → (((fi S2.1 33).toInt < 400 → (0 ≤ (fi S2.1 33).toInt ∧ (fi S2.1 33).toInt < 400) ∧ (0 ≤ (fi S2.1 33).toInt ∧ (fi S2.1 33).toInt < 400) ∧ (0 ≤ (fi S2.1 33).toInt ∧ (fi S2.1 33).toInt < 400) ∧ ((p1.toInt ≠ (-1) → w_X8_acts cy tE (ksu (ksu (ksv S2 2 ((fi S2.1 33).toNatClampNeg) p0) 18 ((fi S2.1 33).toNatClampNeg) p1) 19 ((fi S2.1 33).toNatClampNeg) p2) p1 (fun r7 S8 => w_X8_meet_B89 cy tE post S8 r1 (r7 + 1) (fi S2.1 33))) ∧ (p1.toInt = (-1) → w_X8_meet_B89 cy tE post (ksu (ksu (ksv S2 2 ((fi S2.1 33).toNatClampNeg) p0) 18 ((fi S2.1 33).toNatClampNeg) p1) 19 ((fi S2.1 33).toNatClampNeg) p2) r1 0 (fi S2.1 33)))) ∧ (400 ≤ (fi S2.1 33).toInt → post (ksi S2 34 1)))) ∧ (((ar S2.1 20) r1.toNatClampNeg).toInt ≠ 0 → post S2)))

set_option maxHeartbeats 4000000 in
set_option maxRecDepth 100000 in
theorem k_X8_meet {l : Launch} {D : va_G} {cy : Nat → ClassId} {T0 tB tE : Nat} {a : Nat → Nat} {rw : Nat → Option Nat} (hrw : ∀ i, i < 6 → rw i = some (a (12 + 2 * i))) (S : KS) (p0 : Int64) (p1 : Int32) (p2 : Int32) (post : KS → Prop) (h : w_X8_meet cy tE S p0 p1 p2 post) : Ct l D cy T0 tB tE yX8_meet cX8_meet 6 none 1 26 0 0 (kw cy a rw S) [.ref (a 38), .long p0, .int p1, .int p2] (QV D (U := KS) post (kw cy a rw)) := by
  refine Ct.ofZ RX8 "meet" [(0, .ref (a 38)), (1, .long p0), (3, .int p1), (4, .int p2)] rfl rfl rfl rfl (Nat.le_of_ble_eq_true rfl) ?_
  intro p e R s m args below meth c A b
  unfold w_X8_meet at h
  refine z_aload_n b dX8_meet_0 rfl rfl ?_
  refine z_lload_n b dX8_meet_1 rfl rfl ?_
  refine z_calli b (z_runV (q0 := 38) (As := [.long p0]) (st := []) b (k_X8_slotOf hrw S p0 _ h) cf_X8_slotOf (kw_38 cy a rw S) rfl wm_X8_113 wi_X8_slotOf ws_X8_slotOf dX8_meet_2 rfl (Nat.le_of_ble_eq_true rfl) ⟨by decide, by decide, Nat.le_of_ble_eq_true rfl, Nat.le_of_ble_eq_true rfl⟩) (fun r1 S2 h => ?_)
  refine z_istore (lv' := [(5, .int r1), (0, .ref (a 38)), (1, .long p0), (3, .int p1), (4, .int p2)]) b dX8_meet_5 (by decide) rfl ?_
  refine z_aload_n b dX8_meet_7 rfl rfl ?_
  refine z_get (q0 := 38) (k9 := 7) (v := .ref (a 43)) b (kw_38 cy a rw S2) rfl in_X8 (by decide) wf_X8_32 rfl dX8_meet_8 ?_
  refine z_iload b dX8_meet_11 rfl ?_
  obtain ⟨g3, h⟩ := h
  refine y_iald (q0 := 43) (j := r1.toNatClampNeg) (v := ((ar S2.1 20) r1.toNatClampNeg)) b (kw_43 cy a rw S2) (zx_r g3.1 g3.2) rfl dX8_meet_13 ?_
  refine y_if_eq (tgt := 18) (xl := ((ar S2.1 20) r1.toNatClampNeg).toInt) b rfl dX8_meet_14 (by decide) (fun c1 => ?_) (fun c1 => ?_)
  · replace h := h.1 c1
    refine z_aload_n b dX8_meet_18 rfl rfl ?_
    refine z_get (q0 := 38) (k9 := 17) (v := .int (fi S2.1 33)) b (kw_38 cy a rw S2) rfl in_X8 (by decide) wf_X8_64 rfl dX8_meet_19 ?_
    refine z_sipush (v := 400) b dX8_meet_22 (by decide) ?_
    refine y_icmp_lt (tgt := 34) (xl := (fi S2.1 33).toInt) (yl := 400) b rfl (by decide) dX8_meet_25 (by decide) (fun c1 => ?_) (fun c1 => ?_)
    · replace h := h.1 c1
      refine z_aload_n b dX8_meet_34 rfl rfl ?_
      refine z_get (q0 := 38) (k9 := 3) (v := .ref (a 39)) b (kw_38 cy a rw S2) rfl in_X8 (by decide) wf_X8_18 rfl dX8_meet_35 ?_
      refine z_aload_n b dX8_meet_38 rfl rfl ?_
      refine z_get (q0 := 38) (k9 := 17) (v := .int (fi S2.1 33)) b (kw_38 cy a rw S2) rfl in_X8 (by decide) wf_X8_64 rfl dX8_meet_39 ?_
      refine z_lload_n b dX8_meet_42 rfl rfl ?_
      obtain ⟨g4, h⟩ := h
      refine y_last (q0 := 39) (j := (fi S2.1 33).toNatClampNeg) b (kw_39 cy a rw S2) (zx_r g4.1 g4.2) dX8_meet_43 (kwa_39 cy a rw S2 ((fi S2.1 33).toNatClampNeg) p0) ?_
      refine z_aload_n b dX8_meet_44 rfl rfl ?_
      refine z_get (q0 := 38) (k9 := 5) (v := .ref (a 41)) b (kw_38 cy a rw (ksv S2 2 ((fi S2.1 33).toNatClampNeg) p0)) rfl in_X8 (by decide) wf_X8_26 rfl dX8_meet_45 ?_
      refine z_aload_n b dX8_meet_48 rfl rfl ?_
      refine z_get (q0 := 38) (k9 := 17) (v := .int (fi S2.1 33)) b (kw_38 cy a rw (ksv S2 2 ((fi S2.1 33).toNatClampNeg) p0)) rfl in_X8 (by decide) wf_X8_64 rfl dX8_meet_49 ?_
      refine z_iload_n b dX8_meet_52 rfl rfl ?_
      obtain ⟨g5, h⟩ := h
      refine y_iast (q0 := 41) (j := (fi S2.1 33).toNatClampNeg) b (kw_41 cy a rw (ksv S2 2 ((fi S2.1 33).toNatClampNeg) p0)) (zx_r g5.1 g5.2) dX8_meet_53 (kwa_41 cy a rw (ksv S2 2 ((fi S2.1 33).toNatClampNeg) p0) ((fi S2.1 33).toNatClampNeg) p1) ?_
      refine z_aload_n b dX8_meet_54 rfl rfl ?_
      refine z_get (q0 := 38) (k9 := 6) (v := .ref (a 42)) b (kw_38 cy a rw (ksu (ksv S2 2 ((fi S2.1 33).toNatClampNeg) p0) 18 ((fi S2.1 33).toNatClampNeg) p1)) rfl in_X8 (by decide) wf_X8_29 rfl dX8_meet_55 ?_
      refine z_aload_n b dX8_meet_58 rfl rfl ?_
      refine z_get (q0 := 38) (k9 := 17) (v := .int (fi S2.1 33)) b (kw_38 cy a rw (ksu (ksv S2 2 ((fi S2.1 33).toNatClampNeg) p0) 18 ((fi S2.1 33).toNatClampNeg) p1)) rfl in_X8 (by decide) wf_X8_64 rfl dX8_meet_59 ?_
      refine z_iload b dX8_meet_62 rfl ?_
      obtain ⟨g6, h⟩ := h
      refine y_iast (q0 := 42) (j := (fi S2.1 33).toNatClampNeg) b (kw_42 cy a rw (ksu (ksv S2 2 ((fi S2.1 33).toNatClampNeg) p0) 18 ((fi S2.1 33).toNatClampNeg) p1)) (zx_r g6.1 g6.2) dX8_meet_64 (kwa_42 cy a rw (ksu (ksv S2 2 ((fi S2.1 33).toNatClampNeg) p0) 18 ((fi S2.1 33).toNatClampNeg) p1) ((fi S2.1 33).toNatClampNeg) p2) ?_
      refine z_aload_n b dX8_meet_65 rfl rfl ?_
      refine z_get (q0 := 38) (k9 := 4) (v := .ref (a 40)) b (kw_38 cy a rw (ksu (ksu (ksv S2 2 ((fi S2.1 33).toNatClampNeg) p0) 18 ((fi S2.1 33).toNatClampNeg) p1) 19 ((fi S2.1 33).toNatClampNeg) p2)) rfl in_X8 (by decide) wf_X8_22 rfl dX8_meet_66 ?_
      refine z_aload_n b dX8_meet_69 rfl rfl ?_
      refine z_get (q0 := 38) (k9 := 17) (v := .int (fi S2.1 33)) b (kw_38 cy a rw (ksu (ksu (ksv S2 2 ((fi S2.1 33).toNatClampNeg) p0) 18 ((fi S2.1 33).toNatClampNeg) p1) 19 ((fi S2.1 33).toNatClampNeg) p2)) rfl in_X8 (by decide) wf_X8_64 rfl dX8_meet_70 ?_
      refine z_iload_n b dX8_meet_73 rfl rfl ?_
      refine z_iconst (v := (-1)) b dX8_meet_74 (by decide) ?_
      refine y_icmp_ne (tgt := 82) (xl := p1.toInt) (yl := (-1)) b rfl (by decide) dX8_meet_75 (by decide) (fun c1 => ?_) (fun c1 => ?_)
      · replace h := h.1 c1
        refine z_aload_n b dX8_meet_82 rfl rfl ?_
        refine z_iload_n b dX8_meet_83 rfl rfl ?_
        refine z_calli b (z_runV (q0 := 38) (As := [.int p1]) (st := [.int (fi S2.1 33), .ref (a 40)]) b (k_X8_acts hrw (ksu (ksu (ksv S2 2 ((fi S2.1 33).toNatClampNeg) p0) 18 ((fi S2.1 33).toNatClampNeg) p1) 19 ((fi S2.1 33).toNatClampNeg) p2) p1 _ h) cf_X8_acts (kw_38 cy a rw (ksu (ksu (ksv S2 2 ((fi S2.1 33).toNatClampNeg) p0) 18 ((fi S2.1 33).toNatClampNeg) p1) 19 ((fi S2.1 33).toNatClampNeg) p2)) rfl wm_X8_117 wi_X8_acts ws_X8_acts dX8_meet_84 rfl (Nat.le_of_ble_eq_true rfl) ⟨by decide, by decide, Nat.le_of_ble_eq_true rfl, Nat.le_of_ble_eq_true rfl⟩) (fun r7 S8 h => ?_)
        refine z_iconst (v := 1) b dX8_meet_87 (by decide) ?_
        refine z_iadd b dX8_meet_88 rfl ?_
        refine z_lv0 (lv' := [(0, .ref (a 38)), (5, .int r1)]) [1, 0] rfl ?_
        exact z_X8_meet_B89 hrw b _ _ _ _ h
      · replace h := h.2 c1
        refine z_iconst (v := 0) b dX8_meet_78 (by decide) ?_
        refine z_goto (tgt := 89) b dX8_meet_79 (by decide) ?_
        refine z_lv0 (lv' := [(0, .ref (a 38)), (5, .int r1)]) [1, 0] rfl ?_
        exact z_X8_meet_B89 hrw b _ _ _ _ h
    · replace h := h.2 c1
      refine z_aload_n b dX8_meet_28 rfl rfl ?_
      refine z_iconst (v := 1) b dX8_meet_29 (by decide) ?_
      refine z_put (q0 := 38) (k9 := 18) tyX8 b (kw_38 cy a rw S2) rfl in_X8 tyX8_ok nmX8 (by decide) wf_X8_67 rfl rfl rfl rfl (Nat.le_of_ble_eq_true rfl) dX8_meet_30 (kwp_38_18 cy a rw S2 1) ?_
      exact z_vret (u := (ksi S2 34 1)) b rfl dX8_meet_33 h rfl (by decide) (by decide)
  · replace h := h.2 c1
    exact z_vret (u := S2) b rfl dX8_meet_17 h rfl (by decide) (by decide)

def w_X8_grow_B34 (cy : Nat → ClassId) (tE : Nat) (post : Int32 → KS → Prop) (S : KS)  : Prop :=
  post 0 S

set_option maxHeartbeats 4000000 in
set_option maxRecDepth 100000 in
theorem z_X8_grow_B34 {p : Program} {l : Launch} {e : Env} {R : Room} {s : State} {m : MethodId} {args : Array Value} {below : List Frame} {meth : Method} {c : Code} {D : va_G} {cy : Nat → ClassId} {T0 tB tE : Nat} {A : Nat → Prop} {a : Nat → Nat} {rw : Nat → Option Nat} (hrw : ∀ i, i < 6 → rw i = some (a (12 + 2 * i))) {post : Int32 → KS → Prop} (b : Bz p R s m args meth c D cy T0 tB tE A 2 cX8_grow RX8 (some .boolean) "grow" 4 101 0 0) (S : KS)  (h : w_X8_grow_B34 cy tE post S ) : Z p l e R s m args below meth c D A 2 (MQ below (QI D (U := KS) post (kw cy a rw) A) args s 0 0 A) 0 0 (kw cy a rw S) [] 34 [] := by
  unfold w_X8_grow_B34 at h
  refine z_iconst (v := 0) b dX8_grow_34 (by decide) ?_
  exact z_zret (u := S) b rfl (by decide) dX8_grow_35 h rfl (by decide) (by decide)

def w_X8_grow_B124 (cy : Nat → ClassId) (tE : Nat) (post : Int32 → KS → Prop) (k54 : KS → Int32 → Prop) (k130 : KS → Prop) (S : KS) (x1 : Int32) : Prop :=
  k54 S (x1 + 1)

set_option maxHeartbeats 4000000 in
set_option maxRecDepth 100000 in
theorem z_X8_grow_B124 {p : Program} {l : Launch} {e : Env} {R : Room} {s : State} {m : MethodId} {args : Array Value} {below : List Frame} {meth : Method} {c : Code} {D : va_G} {cy : Nat → ClassId} {T0 tB tE : Nat} {A : Nat → Prop} {a : Nat → Nat} {rw : Nat → Option Nat} (hrw : ∀ i, i < 6 → rw i = some (a (12 + 2 * i))) {post : Int32 → KS → Prop} {k54 : KS → Int32 → Prop} {k130 : KS → Prop} (b : Bz p R s m args meth c D cy T0 tB tE A 2 cX8_grow RX8 (some .boolean) "grow" 4 101 0 0) (hk54 : ∀ (S : KS) (x1 : Int32), k54 S x1 → Z p l e R s m args below meth c D A 2 (MQ below (QI D (U := KS) post (kw cy a rw) A) args s 0 0 A) 0 0 (kw cy a rw S) [(0, .ref (a 38)), (1, .int x1)] 54 []) (hk130 : ∀ (S : KS), k130 S → Z p l e R s m args below meth c D A 2 (MQ below (QI D (U := KS) post (kw cy a rw) A) args s 0 0 A) 0 0 (kw cy a rw S) [(0, .ref (a 38))] 130 []) (S : KS) (x1 : Int32) (h : w_X8_grow_B124 cy tE post k54 k130 S x1) : Z p l e R s m args below meth c D A 2 (MQ below (QI D (U := KS) post (kw cy a rw) A) args s 0 0 A) 0 0 (kw cy a rw S) [(0, .ref (a 38)), (1, .int x1)] 124 [] := by
  unfold w_X8_grow_B124 at h
  refine z_iinc (k9 := 1) (v := (x1 + 1)) (lv' := [(1, .int (x1 + 1)), (0, .ref (a 38))]) b dX8_grow_124 rfl rfl (by decide) rfl ?_
  refine z_goto (tgt := 54) b dX8_grow_127 (by decide) ?_
  refine z_lv0 (lv' := [(0, .ref (a 38)), (1, .int (x1 + 1))]) [1, 0] rfl ?_
  exact hk54 _ _ h

def w_X8_grow_F54 (cy : Nat → ClassId) (tE : Nat) (post : Int32 → KS → Prop) (k130 : KS → Prop) (k54 : KS → Int32 → Prop) (S : KS) (x1 : Int32) : Prop :=
  (((fi S.1 26).toInt ≤ x1.toInt → k130 S) ∧ (x1.toInt < (fi S.1 26).toInt → (((fi S.1 34).toInt ≠ 0 → k130 S) ∧ ((fi S.1 34).toInt = 0 → (0 ≤ x1.toInt ∧ x1.toInt < 216) ∧ w_X2_why cy tE S 4 ((ar S.1 21) x1.toNatClampNeg) (fi S.1 27) (fi S.1 30) (fun r6 S7 => ((r6.toInt ≠ (-1) → w_X8_grow_B124 cy tE post k54 k130 S7 x1) ∧ (r6.toInt = (-1) → w_X9_packed cy tE S7 2 0 0 (fun r8 S9 => (0 ≤ x1.toInt ∧ x1.toInt < 216) ∧ w_X8_meet cy tE S9 r8 (fi S9.1 31) ((ar S9.1 21) x1.toNatClampNeg) (fun S12 => w_X8_grow_B124 cy tE post k54 k130 S12 x1)))))))))

set_option maxHeartbeats 4000000 in
set_option maxRecDepth 100000 in
theorem z_X8_grow_F54 {p : Program} {l : Launch} {e : Env} {R : Room} {s : State} {m : MethodId} {args : Array Value} {below : List Frame} {meth : Method} {c : Code} {D : va_G} {cy : Nat → ClassId} {T0 tB tE : Nat} {A : Nat → Prop} {a : Nat → Nat} {rw : Nat → Option Nat} (hrw : ∀ i, i < 6 → rw i = some (a (12 + 2 * i))) {post : Int32 → KS → Prop} {k130 : KS → Prop} {k54 : KS → Int32 → Prop} (b : Bz p R s m args meth c D cy T0 tB tE A 2 cX8_grow RX8 (some .boolean) "grow" 4 101 0 0) (hk130 : ∀ (S : KS), k130 S → Z p l e R s m args below meth c D A 2 (MQ below (QI D (U := KS) post (kw cy a rw) A) args s 0 0 A) 0 0 (kw cy a rw S) [(0, .ref (a 38))] 130 []) (hk54 : ∀ (S : KS) (x1 : Int32), k54 S x1 → Z p l e R s m args below meth c D A 2 (MQ below (QI D (U := KS) post (kw cy a rw) A) args s 0 0 A) 0 0 (kw cy a rw S) [(0, .ref (a 38)), (1, .int x1)] 54 []) (S : KS) (x1 : Int32) (h : w_X8_grow_F54 cy tE post k130 k54 S x1) : Z p l e R s m args below meth c D A 2 (MQ below (QI D (U := KS) post (kw cy a rw) A) args s 0 0 A) 0 0 (kw cy a rw S) [(0, .ref (a 38)), (1, .int x1)] 54 [] := by
  unfold w_X8_grow_F54 at h
  refine z_iload_n b dX8_grow_54 rfl rfl ?_
  refine z_aload_n b dX8_grow_55 rfl rfl ?_
  refine z_get (q0 := 38) (k9 := 10) (v := .int (fi S.1 26)) b (kw_38 cy a rw S) rfl in_X8 (by decide) wf_X8_41 rfl dX8_grow_56 ?_
  refine y_icmp_ge (tgt := 130) (xl := x1.toInt) (yl := (fi S.1 26).toInt) b rfl rfl dX8_grow_59 (by decide) (fun c1 => ?_) (fun c1 => ?_)
  · replace h := h.1 c1
    refine z_lv0 (lv' := [(0, .ref (a 38))]) [0] rfl ?_
    exact hk130 _ h
  · replace h := h.2 c1
    refine z_aload_n b dX8_grow_62 rfl rfl ?_
    refine z_get (q0 := 38) (k9 := 18) (v := .int (fi S.1 34)) b (kw_38 cy a rw S) rfl in_X8 (by decide) wf_X8_67 rfl dX8_grow_63 ?_
    refine y_if_ne (tgt := 130) (xl := (fi S.1 34).toInt) b rfl dX8_grow_66 (by decide) (fun c1 => ?_) (fun c1 => ?_)
    · replace h := h.1 c1
      refine z_lv0 (lv' := [(0, .ref (a 38))]) [0] rfl ?_
      exact hk130 _ h
    · replace h := h.2 c1
      refine z_aload_n b dX8_grow_69 rfl rfl ?_
      refine z_get (q0 := 38) (k9 := 0) (v := .ref (a 35)) b (kw_38 cy a rw S) rfl in_X8 (by decide) wf_X8_70 rfl dX8_grow_70 ?_
      refine z_aload_n b dX8_grow_73 rfl rfl ?_
      refine z_get (q0 := 38) (k9 := 2) (v := .ref (a 10)) b (kw_38 cy a rw S) rfl in_X8 (by decide) wf_X8_12 rfl dX8_grow_74 ?_
      refine z_aload_n b dX8_grow_77 rfl rfl ?_
      refine z_get (q0 := 38) (k9 := 9) (v := .ref (a 45)) b (kw_38 cy a rw S) rfl in_X8 (by decide) wf_X8_38 rfl dX8_grow_78 ?_
      refine z_iload_n b dX8_grow_81 rfl rfl ?_
      obtain ⟨g5, h⟩ := h
      refine y_iald (q0 := 45) (j := x1.toNatClampNeg) (v := ((ar S.1 21) x1.toNatClampNeg)) b (kw_45 cy a rw S) (zx_r g5.1 g5.2) rfl dX8_grow_82 ?_
      refine z_aload_n b dX8_grow_83 rfl rfl ?_
      refine z_get (q0 := 38) (k9 := 11) (v := .int (fi S.1 27)) b (kw_38 cy a rw S) rfl in_X8 (by decide) wf_X8_45 rfl dX8_grow_84 ?_
      refine z_aload_n b dX8_grow_87 rfl rfl ?_
      refine z_get (q0 := 38) (k9 := 14) (v := .int (fi S.1 30)) b (kw_38 cy a rw S) rfl in_X8 (by decide) wf_X8_54 rfl dX8_grow_88 ?_
      refine z_calli b (z_runV (q0 := 35) (As := [.ref (a 10), .int ((ar S.1 21) x1.toNatClampNeg), .int (fi S.1 27), .int (fi S.1 30)]) (st := []) b (k_X2_why hrw S 4 ((ar S.1 21) x1.toNatClampNeg) (fi S.1 27) (fi S.1 30) _ h) cf_X2_why (kw_35 cy a rw S) rfl wm_X8_126 wi_X2_why ws_X2_why dX8_grow_91 rfl (Nat.le_of_ble_eq_true rfl) ⟨by decide, by decide, Nat.le_of_ble_eq_true rfl, Nat.le_of_ble_eq_true rfl⟩) (fun r6 S7 h => ?_)
      refine z_iconst (v := (-1)) b dX8_grow_94 (by decide) ?_
      refine y_icmp_ne (tgt := 124) (xl := r6.toInt) (yl := (-1)) b rfl (by decide) dX8_grow_95 (by decide) (fun c1 => ?_) (fun c1 => ?_)
      · replace h := h.1 c1
        exact z_X8_grow_B124 hrw b hk54 hk130 _ _ h
      · replace h := h.2 c1
        refine z_aload_n b dX8_grow_98 rfl rfl ?_
        refine z_aload_n b dX8_grow_99 rfl rfl ?_
        refine z_get (q0 := 38) (k9 := 0) (v := .ref (a 35)) b (kw_38 cy a rw S7) rfl in_X8 (by decide) wf_X8_70 rfl dX8_grow_100 ?_
        refine z_get (q0 := 35) (k9 := 2) (v := .ref (a 6)) b (kw_35 cy a rw S7) rfl in_X2 (by decide) wf_X8_130 rfl dX8_grow_103 ?_
        refine z_iconst (v := 0) b dX8_grow_106 (by decide) ?_
        refine z_iconst (v := 0) b dX8_grow_107 (by decide) ?_
        refine z_calll b (z_runV (q0 := 6) (As := [.int 0, .int 0]) (st := [.ref (a 38)]) b (k_X9_packed hrw S7 2 0 0 _ h) cf_X9_packed (kw_6 cy a rw S7) rfl wm_X8_86 wi_X9_packed ws_X9_packed dX8_grow_108 rfl (Nat.le_of_ble_eq_true rfl) ⟨by decide, by decide, Nat.le_of_ble_eq_true rfl, Nat.le_of_ble_eq_true rfl⟩) (fun r8 S9 h => ?_)
        refine z_aload_n b dX8_grow_111 rfl rfl ?_
        refine z_get (q0 := 38) (k9 := 15) (v := .int (fi S9.1 31)) b (kw_38 cy a rw S9) rfl in_X8 (by decide) wf_X8_57 rfl dX8_grow_112 ?_
        refine z_aload_n b dX8_grow_115 rfl rfl ?_
        refine z_get (q0 := 38) (k9 := 9) (v := .ref (a 45)) b (kw_38 cy a rw S9) rfl in_X8 (by decide) wf_X8_38 rfl dX8_grow_116 ?_
        refine z_iload_n b dX8_grow_119 rfl rfl ?_
        obtain ⟨g10, h⟩ := h
        refine y_iald (q0 := 45) (j := x1.toNatClampNeg) (v := ((ar S9.1 21) x1.toNatClampNeg)) b (kw_45 cy a rw S9) (zx_r g10.1 g10.2) rfl dX8_grow_120 ?_
        refine z_callv b (z_runV (q0 := 38) (As := [.long r8, .int (fi S9.1 31), .int ((ar S9.1 21) x1.toNatClampNeg)]) (st := []) b (k_X8_meet hrw S9 r8 (fi S9.1 31) ((ar S9.1 21) x1.toNatClampNeg) _ h) cf_X8_meet (kw_38 cy a rw S9) rfl wm_X8_90 wi_X8_meet ws_X8_meet dX8_grow_121 rfl (Nat.le_of_ble_eq_true rfl) ⟨by decide, by decide, Nat.le_of_ble_eq_true rfl, Nat.le_of_ble_eq_true rfl⟩) (fun S12 h => ?_)
        exact z_X8_grow_B124 hrw b hk54 hk130 _ _ h

set_option maxHeartbeats 4000000 in
set_option maxRecDepth 100000 in
theorem zl_X8_grow_L54 {p : Program} {l : Launch} {e : Env} {R : Room} {s : State} {m : MethodId} {args : Array Value} {below : List Frame} {meth : Method} {c : Code} {D : va_G} {cy : Nat → ClassId} {T0 tB tE : Nat} {A : Nat → Prop} {a : Nat → Nat} {rw : Nat → Option Nat} (hrw : ∀ i, i < 6 → rw i = some (a (12 + 2 * i))) {post : Int32 → KS → Prop} {k130 : KS → Prop} (b : Bz p R s m args meth c D cy T0 tB tE A 2 cX8_grow RX8 (some .boolean) "grow" 4 101 0 0) (hk130 : ∀ (S : KS), k130 S → Z p l e R s m args below meth c D A 2 (MQ below (QI D (U := KS) post (kw cy a rw) A) args s 0 0 A) 0 0 (kw cy a rw S) [(0, .ref (a 38))] 130 []) : ∀ (n : Nat) (S : KS) (x1 : Int32), lpn (w_X8_grow_F54 cy tE post k130) (fun _ _ => False) n S x1 → Z p l e R s m args below meth c D A 2 (MQ below (QI D (U := KS) post (kw cy a rw) A) args s 0 0 A) 0 0 (kw cy a rw S) [(0, .ref (a 38)), (1, .int x1)] 54 [] := by
  intro n
  induction n with
  | zero => intro _ _ h; exact h.elim
  | succ n ih => intro S x1 h; exact z_X8_grow_F54 hrw b hk130 ih S x1 h

def w_X8_grow_B130 (cy : Nat → ClassId) (tE : Nat) (post : Int32 → KS → Prop) (S : KS)  : Prop :=
  post 1 (ksi S 31 ((fi S.1 31) + 1))

set_option maxHeartbeats 4000000 in
set_option maxRecDepth 100000 in
theorem z_X8_grow_B130 {p : Program} {l : Launch} {e : Env} {R : Room} {s : State} {m : MethodId} {args : Array Value} {below : List Frame} {meth : Method} {c : Code} {D : va_G} {cy : Nat → ClassId} {T0 tB tE : Nat} {A : Nat → Prop} {a : Nat → Nat} {rw : Nat → Option Nat} (hrw : ∀ i, i < 6 → rw i = some (a (12 + 2 * i))) {post : Int32 → KS → Prop} (b : Bz p R s m args meth c D cy T0 tB tE A 2 cX8_grow RX8 (some .boolean) "grow" 4 101 0 0) (S : KS)  (h : w_X8_grow_B130 cy tE post S ) : Z p l e R s m args below meth c D A 2 (MQ below (QI D (U := KS) post (kw cy a rw) A) args s 0 0 A) 0 0 (kw cy a rw S) [(0, .ref (a 38))] 130 [] := by
  unfold w_X8_grow_B130 at h
  refine z_aload_n b dX8_grow_130 rfl rfl ?_
  refine z_dup b dX8_grow_131 rfl ?_
  refine z_get (q0 := 38) (k9 := 15) (v := .int (fi S.1 31)) b (kw_38 cy a rw S) rfl in_X8 (by decide) wf_X8_57 rfl dX8_grow_132 ?_
  refine z_iconst (v := 1) b dX8_grow_135 (by decide) ?_
  refine z_iadd b dX8_grow_136 rfl ?_
  refine z_put (q0 := 38) (k9 := 15) tyX8 b (kw_38 cy a rw S) rfl in_X8 tyX8_ok nmX8 (by decide) wf_X8_57 rfl rfl rfl rfl (Nat.le_of_ble_eq_true rfl) dX8_grow_137 (kwp_38_15 cy a rw S ((fi S.1 31) + 1)) ?_
  refine z_iconst (v := 1) b dX8_grow_140 (by decide) ?_
  exact z_zret (u := (ksi S 31 ((fi S.1 31) + 1))) b rfl (by decide) dX8_grow_141 h rfl (by decide) (by decide)

def w_X8_grow (cy : Nat → ClassId) (tE : Nat) (S : KS)  (post : Int32 → KS → Prop) : Prop :=
  (((fi S.1 34).toInt ≠ 0 → w_X8_grow_B34 cy tE post S) ∧ ((fi S.1 34).toInt = 0 → (((fi S.1 33).toInt ≤ (fi S.1 31).toInt → w_X8_grow_B34 cy tE post S) ∧ ((fi S.1 31).toInt < (fi S.1 33).toInt → (0 ≤ (fi S.1 31).toInt ∧ (fi S.1 31).toInt < 400) ∧ ((((ar S.1 17) (fi S.1 31).toNatClampNeg).toInt < (fi S.1 28).toInt → (0 ≤ (fi S.1 31).toInt ∧ (fi S.1 31).toInt < 400) ∧ w_X9_unpack cy tE S 4 ((al S.1 2) (fi S.1 31).toNatClampNeg) (fun S4 => ∃ n, lpn (w_X8_grow_F54 cy tE post (w_X8_grow_B130 cy tE post)) (fun _ _ => False) n S4 0)) ∧ ((fi S.1 28).toInt ≤ ((ar S.1 17) (fi S.1 31).toNatClampNeg).toInt → w_X8_grow_B34 cy tE post S))))))

set_option maxHeartbeats 4000000 in
set_option maxRecDepth 100000 in
theorem k_X8_grow {l : Launch} {D : va_G} {cy : Nat → ClassId} {T0 tB tE : Nat} {a : Nat → Nat} {rw : Nat → Option Nat} (hrw : ∀ i, i < 6 → rw i = some (a (12 + 2 * i))) (S : KS)  (post : Int32 → KS → Prop) (h : w_X8_grow cy tE S  post) : Ct l D cy T0 tB tE yX8_grow cX8_grow 2 (some .boolean) 4 101 0 0 (kw cy a rw S) [.ref (a 38)] (QI D (U := KS) post (kw cy a rw)) := by
  refine Ct.ofZ RX8 "grow" [(0, .ref (a 38))] rfl rfl rfl rfl (Nat.le_of_ble_eq_true rfl) ?_
  intro p e R s m args below meth c A b
  unfold w_X8_grow at h
  refine z_aload_n b dX8_grow_0 rfl rfl ?_
  refine z_get (q0 := 38) (k9 := 18) (v := .int (fi S.1 34)) b (kw_38 cy a rw S) rfl in_X8 (by decide) wf_X8_67 rfl dX8_grow_1 ?_
  refine y_if_ne (tgt := 34) (xl := (fi S.1 34).toInt) b rfl dX8_grow_4 (by decide) (fun c1 => ?_) (fun c1 => ?_)
  · replace h := h.1 c1
    refine z_lv0 (lv' := []) [] rfl ?_
    exact z_X8_grow_B34 hrw b _ h
  · replace h := h.2 c1
    refine z_aload_n b dX8_grow_7 rfl rfl ?_
    refine z_get (q0 := 38) (k9 := 15) (v := .int (fi S.1 31)) b (kw_38 cy a rw S) rfl in_X8 (by decide) wf_X8_57 rfl dX8_grow_8 ?_
    refine z_aload_n b dX8_grow_11 rfl rfl ?_
    refine z_get (q0 := 38) (k9 := 17) (v := .int (fi S.1 33)) b (kw_38 cy a rw S) rfl in_X8 (by decide) wf_X8_64 rfl dX8_grow_12 ?_
    refine y_icmp_ge (tgt := 34) (xl := (fi S.1 31).toInt) (yl := (fi S.1 33).toInt) b rfl rfl dX8_grow_15 (by decide) (fun c1 => ?_) (fun c1 => ?_)
    · replace h := h.1 c1
      refine z_lv0 (lv' := []) [] rfl ?_
      exact z_X8_grow_B34 hrw b _ h
    · replace h := h.2 c1
      refine z_aload_n b dX8_grow_18 rfl rfl ?_
      refine z_get (q0 := 38) (k9 := 4) (v := .ref (a 40)) b (kw_38 cy a rw S) rfl in_X8 (by decide) wf_X8_22 rfl dX8_grow_19 ?_
      refine z_aload_n b dX8_grow_22 rfl rfl ?_
      refine z_get (q0 := 38) (k9 := 15) (v := .int (fi S.1 31)) b (kw_38 cy a rw S) rfl in_X8 (by decide) wf_X8_57 rfl dX8_grow_23 ?_
      obtain ⟨g1, h⟩ := h
      refine y_iald (q0 := 40) (j := (fi S.1 31).toNatClampNeg) (v := ((ar S.1 17) (fi S.1 31).toNatClampNeg)) b (kw_40 cy a rw S) (zx_r g1.1 g1.2) rfl dX8_grow_26 ?_
      refine z_aload_n b dX8_grow_27 rfl rfl ?_
      refine z_get (q0 := 38) (k9 := 12) (v := .int (fi S.1 28)) b (kw_38 cy a rw S) rfl in_X8 (by decide) wf_X8_48 rfl dX8_grow_28 ?_
      refine y_icmp_lt (tgt := 36) (xl := ((ar S.1 17) (fi S.1 31).toNatClampNeg).toInt) (yl := (fi S.1 28).toInt) b rfl rfl dX8_grow_31 (by decide) (fun c1 => ?_) (fun c1 => ?_)
      · replace h := h.1 c1
        refine z_aload_n b dX8_grow_36 rfl rfl ?_
        refine z_get (q0 := 38) (k9 := 2) (v := .ref (a 10)) b (kw_38 cy a rw S) rfl in_X8 (by decide) wf_X8_12 rfl dX8_grow_37 ?_
        refine z_aload_n b dX8_grow_40 rfl rfl ?_
        refine z_get (q0 := 38) (k9 := 3) (v := .ref (a 39)) b (kw_38 cy a rw S) rfl in_X8 (by decide) wf_X8_18 rfl dX8_grow_41 ?_
        refine z_aload_n b dX8_grow_44 rfl rfl ?_
        refine z_get (q0 := 38) (k9 := 15) (v := .int (fi S.1 31)) b (kw_38 cy a rw S) rfl in_X8 (by decide) wf_X8_57 rfl dX8_grow_45 ?_
        obtain ⟨g2, h⟩ := h
        refine y_lald (q0 := 39) (j := (fi S.1 31).toNatClampNeg) (v := ((al S.1 2) (fi S.1 31).toNatClampNeg)) b (kw_39 cy a rw S) (zx_r g2.1 g2.2) rfl dX8_grow_48 ?_
        refine z_callv b (z_runV (q0 := 10) (As := [.long ((al S.1 2) (fi S.1 31).toNatClampNeg)]) (st := []) b (k_X9_unpack hrw S 4 ((al S.1 2) (fi S.1 31).toNatClampNeg) _ h) cf_X9_unpack (kw_10 cy a rw S) rfl wm_X8_122 wi_X9_unpack ws_X9_unpack dX8_grow_49 rfl (Nat.le_of_ble_eq_true rfl) ⟨by decide, by decide, Nat.le_of_ble_eq_true rfl, Nat.le_of_ble_eq_true rfl⟩) (fun S4 h => ?_)
        refine z_iconst (v := 0) b dX8_grow_52 (by decide) ?_
        refine z_istore_n (lv' := [(1, .int 0), (0, .ref (a 38))]) b dX8_grow_53 rfl (by decide) rfl ?_
        refine z_lv0 (lv' := [(0, .ref (a 38)), (1, .int 0)]) [1, 0] rfl ?_
        obtain ⟨n, h⟩ := h
        exact zl_X8_grow_L54 hrw b (fun S h => z_X8_grow_B130 hrw b _ h) n _ _ h
      · replace h := h.2 c1
        refine z_lv0 (lv' := []) [] rfl ?_
        exact z_X8_grow_B34 hrw b _ h

def w_X8_finish_F4 (cy : Nat → ClassId) (tE : Nat) (post : KS → Prop) (k26 : KS → Prop) (k4 : KS → Int32 → Int32 → Prop) (S : KS) (x1 : Int32) (x2 : Int32) : Prop :=
  ((400 < x2.toInt → k26 S) ∧ (x2.toInt ≤ 400 → ((x1.toInt = 0 → k26 S) ∧ (x1.toInt ≠ 0 → w_X8_grow cy tE S (fun r1 S2 => k4 S2 r1 (x2 + 1))))))

set_option maxHeartbeats 4000000 in
set_option maxRecDepth 100000 in
theorem z_X8_finish_F4 {p : Program} {l : Launch} {e : Env} {R : Room} {s : State} {m : MethodId} {args : Array Value} {below : List Frame} {meth : Method} {c : Code} {D : va_G} {cy : Nat → ClassId} {T0 tB tE : Nat} {A : Nat → Prop} {a : Nat → Nat} {rw : Nat → Option Nat} (hrw : ∀ i, i < 6 → rw i = some (a (12 + 2 * i))) {post : KS → Prop} {k26 : KS → Prop} {k4 : KS → Int32 → Int32 → Prop} (b : Bz p R s m args meth c D cy T0 tB tE A 3 cX8_finish RX8 none "finish" 5 122 0 0) (hk26 : ∀ (S : KS), k26 S → Z p l e R s m args below meth c D A 3 (MQ below (QV D (U := KS) post (kw cy a rw) A) args s 0 0 A) 0 0 (kw cy a rw S) [] 26 []) (hk4 : ∀ (S : KS) (x1 : Int32) (x2 : Int32), k4 S x1 x2 → Z p l e R s m args below meth c D A 3 (MQ below (QV D (U := KS) post (kw cy a rw) A) args s 0 0 A) 0 0 (kw cy a rw S) [(0, .ref (a 38)), (1, .int x1), (2, .int x2)] 4 []) (S : KS) (x1 : Int32) (x2 : Int32) (h : w_X8_finish_F4 cy tE post k26 k4 S x1 x2) : Z p l e R s m args below meth c D A 3 (MQ below (QV D (U := KS) post (kw cy a rw) A) args s 0 0 A) 0 0 (kw cy a rw S) [(0, .ref (a 38)), (1, .int x1), (2, .int x2)] 4 [] := by
  unfold w_X8_finish_F4 at h
  refine z_iload_n b dX8_finish_4 rfl rfl ?_
  refine z_sipush (v := 400) b dX8_finish_5 (by decide) ?_
  refine y_icmp_gt (tgt := 26) (xl := x2.toInt) (yl := 400) b rfl (by decide) dX8_finish_8 (by decide) (fun c1 => ?_) (fun c1 => ?_)
  · replace h := h.1 c1
    refine z_lv0 (lv' := []) [] rfl ?_
    exact hk26 _ h
  · replace h := h.2 c1
    refine z_iload_n b dX8_finish_11 rfl rfl ?_
    refine y_if_eq (tgt := 26) (xl := x1.toInt) b rfl dX8_finish_12 (by decide) (fun c1 => ?_) (fun c1 => ?_)
    · replace h := h.1 c1
      refine z_lv0 (lv' := []) [] rfl ?_
      exact hk26 _ h
    · replace h := h.2 c1
      refine z_aload_n b dX8_finish_15 rfl rfl ?_
      refine z_calli b (z_runV (q0 := 38) (As := []) (st := []) b (k_X8_grow hrw S _ h) cf_X8_grow (kw_38 cy a rw S) rfl wm_X8_133 wi_X8_grow ws_X8_grow dX8_finish_16 rfl (Nat.le_of_ble_eq_true rfl) ⟨by decide, by decide, Nat.le_of_ble_eq_true rfl, Nat.le_of_ble_eq_true rfl⟩) (fun r1 S2 h => ?_)
      refine z_istore_n (lv' := [(1, .int r1), (0, .ref (a 38)), (2, .int x2)]) b dX8_finish_19 rfl (by decide) rfl ?_
      refine z_iinc (k9 := 2) (v := (x2 + 1)) (lv' := [(2, .int (x2 + 1)), (1, .int r1), (0, .ref (a 38))]) b dX8_finish_20 rfl rfl (by decide) rfl ?_
      refine z_goto (tgt := 4) b dX8_finish_23 (by decide) ?_
      refine z_lv0 (lv' := [(0, .ref (a 38)), (1, .int r1), (2, .int (x2 + 1))]) [2, 1, 0] rfl ?_
      exact hk4 _ _ _ h

set_option maxHeartbeats 4000000 in
set_option maxRecDepth 100000 in
theorem zl_X8_finish_L4 {p : Program} {l : Launch} {e : Env} {R : Room} {s : State} {m : MethodId} {args : Array Value} {below : List Frame} {meth : Method} {c : Code} {D : va_G} {cy : Nat → ClassId} {T0 tB tE : Nat} {A : Nat → Prop} {a : Nat → Nat} {rw : Nat → Option Nat} (hrw : ∀ i, i < 6 → rw i = some (a (12 + 2 * i))) {post : KS → Prop} {k26 : KS → Prop} (b : Bz p R s m args meth c D cy T0 tB tE A 3 cX8_finish RX8 none "finish" 5 122 0 0) (hk26 : ∀ (S : KS), k26 S → Z p l e R s m args below meth c D A 3 (MQ below (QV D (U := KS) post (kw cy a rw) A) args s 0 0 A) 0 0 (kw cy a rw S) [] 26 []) : ∀ (n : Nat) (S : KS) (x1 : Int32) (x2 : Int32), lpn (w_X8_finish_F4 cy tE post k26) (fun _ _ _ => False) n S x1 x2 → Z p l e R s m args below meth c D A 3 (MQ below (QV D (U := KS) post (kw cy a rw) A) args s 0 0 A) 0 0 (kw cy a rw S) [(0, .ref (a 38)), (1, .int x1), (2, .int x2)] 4 [] := by
  intro n
  induction n with
  | zero => intro _ _ _ h; exact h.elim
  | succ n ih => intro S x1 x2 h; exact z_X8_finish_F4 hrw b hk26 ih S x1 x2 h

def w_X8_finish_B26 (cy : Nat → ClassId) (tE : Nat) (post : KS → Prop) (S : KS)  : Prop :=
  post S

set_option maxHeartbeats 4000000 in
set_option maxRecDepth 100000 in
theorem z_X8_finish_B26 {p : Program} {l : Launch} {e : Env} {R : Room} {s : State} {m : MethodId} {args : Array Value} {below : List Frame} {meth : Method} {c : Code} {D : va_G} {cy : Nat → ClassId} {T0 tB tE : Nat} {A : Nat → Prop} {a : Nat → Nat} {rw : Nat → Option Nat} (hrw : ∀ i, i < 6 → rw i = some (a (12 + 2 * i))) {post : KS → Prop} (b : Bz p R s m args meth c D cy T0 tB tE A 3 cX8_finish RX8 none "finish" 5 122 0 0) (S : KS)  (h : w_X8_finish_B26 cy tE post S ) : Z p l e R s m args below meth c D A 3 (MQ below (QV D (U := KS) post (kw cy a rw) A) args s 0 0 A) 0 0 (kw cy a rw S) [] 26 [] := by
  unfold w_X8_finish_B26 at h
  exact z_vret (u := S) b rfl dX8_finish_26 h rfl (by decide) (by decide)

def w_X8_finish (cy : Nat → ClassId) (tE : Nat) (S : KS)  (post : KS → Prop) : Prop :=
  ∃ n, lpn (w_X8_finish_F4 cy tE post (w_X8_finish_B26 cy tE post)) (fun _ _ _ => False) n S 1 0

set_option maxHeartbeats 4000000 in
set_option maxRecDepth 100000 in
theorem k_X8_finish {l : Launch} {D : va_G} {cy : Nat → ClassId} {T0 tB tE : Nat} {a : Nat → Nat} {rw : Nat → Option Nat} (hrw : ∀ i, i < 6 → rw i = some (a (12 + 2 * i))) (S : KS)  (post : KS → Prop) (h : w_X8_finish cy tE S  post) : Ct l D cy T0 tB tE yX8_finish cX8_finish 3 none 5 122 0 0 (kw cy a rw S) [.ref (a 38)] (QV D (U := KS) post (kw cy a rw)) := by
  refine Ct.ofZ RX8 "finish" [(0, .ref (a 38))] rfl rfl rfl rfl (Nat.le_of_ble_eq_true rfl) ?_
  intro p e R s m args below meth c A b
  unfold w_X8_finish at h
  refine z_iconst (v := 1) b dX8_finish_0 (by decide) ?_
  refine z_istore_n (lv' := [(1, .int 1), (0, .ref (a 38))]) b dX8_finish_1 rfl (by decide) rfl ?_
  refine z_iconst (v := 0) b dX8_finish_2 (by decide) ?_
  refine z_istore_n (lv' := [(2, .int 0), (1, .int 1), (0, .ref (a 38))]) b dX8_finish_3 rfl (by decide) rfl ?_
  refine z_lv0 (lv' := [(0, .ref (a 38)), (1, .int 1), (2, .int 0)]) [2, 1, 0] rfl ?_
  obtain ⟨n, h⟩ := h
  exact zl_X8_finish_L4 hrw b (fun S h => z_X8_finish_B26 hrw b _ h) n _ _ _ h

def w_X11_fault_B28 (cy : Nat → ClassId) (tE : Nat) (post : Int32 → KS → Prop) (S : KS) (y0 : Int32) : Prop :=
  post y0 S

set_option maxHeartbeats 4000000 in
set_option maxRecDepth 100000 in
theorem z_X11_fault_B28 {p : Program} {l : Launch} {e : Env} {R : Room} {s : State} {m : MethodId} {args : Array Value} {below : List Frame} {meth : Method} {c : Code} {D : va_G} {cy : Nat → ClassId} {T0 tB tE : Nat} {A : Nat → Prop} {a : Nat → Nat} {rw : Nat → Option Nat} (hrw : ∀ i, i < 6 → rw i = some (a (12 + 2 * i))) {post : Int32 → KS → Prop} (b : Bz p R s m args meth c D cy T0 tB tE A 2 cX11_fault RX11 (some .int) "fault" 0 0 0 0) (S : KS) (y0 : Int32) (h : w_X11_fault_B28 cy tE post S y0) : Z p l e R s m args below meth c D A 2 (MQ below (QI D (U := KS) post (kw cy a rw) A) args s 0 0 A) 0 0 (kw cy a rw S) [] 28 [.int y0] := by
  unfold w_X11_fault_B28 at h
  exact z_iret (u := S) b rfl dX11_fault_28 h rfl (by decide) (by decide)

def w_X11_fault (cy : Nat → ClassId) (tE : Nat) (S : KS) (p0 : Int32) (post : Int32 → KS → Prop) : Prop :=
  ((p0.toInt ≠ 0 → ((p0.toInt ≠ 1 → w_X11_fault_B28 cy tE post S (-1)) ∧ (p0.toInt = 1 → w_X11_fault_B28 cy tE post S (fi S.1 20)))) ∧ (p0.toInt = 0 → post (fi S.1 19) S))

set_option maxHeartbeats 4000000 in
set_option maxRecDepth 100000 in
theorem k_X11_fault {l : Launch} {D : va_G} {cy : Nat → ClassId} {T0 tB tE : Nat} {a : Nat → Nat} {rw : Nat → Option Nat} (hrw : ∀ i, i < 6 → rw i = some (a (12 + 2 * i))) (S : KS) (p0 : Int32) (post : Int32 → KS → Prop) (h : w_X11_fault cy tE S p0 post) : Ct l D cy T0 tB tE yX11_fault cX11_fault 2 (some .int) 0 0 0 0 (kw cy a rw S) [.ref (a 0), .int p0] (QI D (U := KS) post (kw cy a rw)) := by
  refine Ct.ofZ RX11 "fault" [(0, .ref (a 0)), (1, .int p0)] rfl rfl rfl rfl (Nat.le_of_ble_eq_true rfl) ?_
  intro p e R s m args below meth c A b
  unfold w_X11_fault at h
  refine z_iload_n b dX11_fault_0 rfl rfl ?_
  refine y_if_ne (tgt := 12) (xl := p0.toInt) b rfl dX11_fault_1 (by decide) (fun c1 => ?_) (fun c1 => ?_)
  · replace h := h.1 c1
    refine z_iload_n b dX11_fault_12 rfl rfl ?_
    refine z_iconst (v := 1) b dX11_fault_13 (by decide) ?_
    refine y_icmp_ne (tgt := 27) (xl := p0.toInt) (yl := 1) b rfl (by decide) dX11_fault_14 (by decide) (fun c1 => ?_) (fun c1 => ?_)
    · replace h := h.1 c1
      refine z_iconst (v := (-1)) b dX11_fault_27 (by decide) ?_
      refine z_lv0 (lv' := []) [] rfl ?_
      exact z_X11_fault_B28 hrw b _ _ h
    · replace h := h.2 c1
      refine z_aload_n b dX11_fault_17 rfl rfl ?_
      refine z_get (q0 := 0) (k9 := 2) (v := .ref (a 26)) b (kw_0 cy a rw S) rfl in_X11 (by decide) wf_X11_20 rfl dX11_fault_18 ?_
      refine z_get (q0 := 26) (k9 := 8) (v := .int (fi S.1 20)) b (kw_26 cy a rw S) rfl in_X5 (by decide) wf_X11_147 rfl dX11_fault_21 ?_
      refine z_goto (tgt := 28) b dX11_fault_24 (by decide) ?_
      refine z_lv0 (lv' := []) [] rfl ?_
      exact z_X11_fault_B28 hrw b _ _ h
  · replace h := h.2 c1
    refine z_aload_n b dX11_fault_4 rfl rfl ?_
    refine z_get (q0 := 0) (k9 := 2) (v := .ref (a 26)) b (kw_0 cy a rw S) rfl in_X11 (by decide) wf_X11_20 rfl dX11_fault_5 ?_
    refine z_get (q0 := 26) (k9 := 7) (v := .int (fi S.1 19)) b (kw_26 cy a rw S) rfl in_X5 (by decide) wf_X11_144 rfl dX11_fault_8 ?_
    exact z_iret (u := S) b rfl dX11_fault_11 h rfl (by decide) (by decide)

def w_X11_day (cy : Nat → ClassId) (tE : Nat) (S : KS) (p0 : Int32) (post : Int32 → KS → Prop) : Prop :=
  w_X11_isWithin cy tE S p0 15 (fun r1 S2 => ((r1.toInt ≠ 0 → w_X9_set cy tE S2 0 50 p0 (fun S4 => w_X8_forget cy tE S4 (fun S6 => post 1 S6))) ∧ (r1.toInt = 0 → post 0 S2)))

set_option maxHeartbeats 4000000 in
set_option maxRecDepth 100000 in
theorem k_X11_day {l : Launch} {D : va_G} {cy : Nat → ClassId} {T0 tB tE : Nat} {a : Nat → Nat} {rw : Nat → Option Nat} (hrw : ∀ i, i < 6 → rw i = some (a (12 + 2 * i))) (S : KS) (p0 : Int32) (post : Int32 → KS → Prop) (h : w_X11_day cy tE S p0 post) : Ct l D cy T0 tB tE yX11_day cX11_day 2 (some .boolean) 1 22 0 0 (kw cy a rw S) [.ref (a 0), .int p0] (QI D (U := KS) post (kw cy a rw)) := by
  refine Ct.ofZ RX11 "day" [(0, .ref (a 0)), (1, .int p0)] rfl rfl rfl rfl (Nat.le_of_ble_eq_true rfl) ?_
  intro p e R s m args below meth c A b
  unfold w_X11_day at h
  refine z_iload_n b dX11_day_0 rfl rfl ?_
  refine z_bipush (v := 15) b dX11_day_1 (by decide) ?_
  refine z_calli b (z_runS (As := [.int p0, .int 15]) (st := []) b (k_X11_isWithin hrw S p0 15 _ h) cf_X11_isWithin wm_X11_73 ws_X11_isWithin dX11_day_3 rfl (Nat.le_of_ble_eq_true rfl) ⟨by decide, by decide, Nat.le_of_ble_eq_true rfl, Nat.le_of_ble_eq_true rfl⟩) (fun r1 S2 h => ?_)
  refine y_if_ne (tgt := 11) (xl := r1.toInt) b rfl dX11_day_6 (by decide) (fun c1 => ?_) (fun c1 => ?_)
  · replace h := h.1 c1
    refine z_aload_n b dX11_day_11 rfl rfl ?_
    refine z_get (q0 := 0) (k9 := 4) (v := .ref (a 2)) b (kw_0 cy a rw S2) rfl in_X11 (by decide) wf_X11_34 rfl dX11_day_12 ?_
    refine z_bipush (v := 50) b dX11_day_15 (by decide) ?_
    refine z_iload_n b dX11_day_17 rfl rfl ?_
    refine z_callv b (z_runV (q0 := 2) (As := [.int 50, .int p0]) (st := []) b (k_X9_set hrw S2 0 50 p0 _ h) cf_X9_set (kw_2 cy a rw S2) rfl wm_X11_77 wi_X9_set ws_X9_set dX11_day_18 rfl (Nat.le_of_ble_eq_true rfl) ⟨by decide, by decide, Nat.le_of_ble_eq_true rfl, Nat.le_of_ble_eq_true rfl⟩) (fun S4 h => ?_)
    refine z_aload_n b dX11_day_21 rfl rfl ?_
    refine z_get (q0 := 0) (k9 := 6) (v := .ref (a 38)) b (kw_0 cy a rw S4) rfl in_X11 (by decide) wf_X11_52 rfl dX11_day_22 ?_
    refine z_callv b (z_runV (q0 := 38) (As := []) (st := []) b (k_X8_forget hrw S4 _ h) cf_X8_forget (kw_38 cy a rw S4) rfl wm_X11_81 wi_X8_forget ws_X8_forget dX11_day_25 rfl (Nat.le_of_ble_eq_true rfl) ⟨by decide, by decide, Nat.le_of_ble_eq_true rfl, Nat.le_of_ble_eq_true rfl⟩) (fun S6 h => ?_)
    refine z_iconst (v := 1) b dX11_day_28 (by decide) ?_
    exact z_zret (u := S6) b rfl (by decide) dX11_day_29 h rfl (by decide) (by decide)
  · replace h := h.2 c1
    refine z_iconst (v := 0) b dX11_day_9 (by decide) ?_
    exact z_zret (u := S2) b rfl (by decide) dX11_day_10 h rfl (by decide) (by decide)

def w_X11_put_B17 (cy : Nat → ClassId) (tE : Nat) (post : Int32 → KS → Prop) (S : KS)  : Prop :=
  post (-1) S

set_option maxHeartbeats 4000000 in
set_option maxRecDepth 100000 in
theorem z_X11_put_B17 {p : Program} {l : Launch} {e : Env} {R : Room} {s : State} {m : MethodId} {args : Array Value} {below : List Frame} {meth : Method} {c : Code} {D : va_G} {cy : Nat → ClassId} {T0 tB tE : Nat} {A : Nat → Prop} {a : Nat → Nat} {rw : Nat → Option Nat} (hrw : ∀ i, i < 6 → rw i = some (a (12 + 2 * i))) {post : Int32 → KS → Prop} (b : Bz p R s m args meth c D cy T0 tB tE A 3 cX11_put RX11 (some .int) "put" 1 21 0 0) (S : KS)  (h : w_X11_put_B17 cy tE post S ) : Z p l e R s m args below meth c D A 3 (MQ below (QI D (U := KS) post (kw cy a rw) A) args s 0 0 A) 0 0 (kw cy a rw S) [] 17 [] := by
  unfold w_X11_put_B17 at h
  refine z_iconst (v := (-1)) b dX11_put_17 (by decide) ?_
  exact z_iret (u := S) b rfl dX11_put_18 h rfl (by decide) (by decide)

def w_X11_put (cy : Nat → ClassId) (tE : Nat) (S : KS) (p0 : Int32) (p1 : Int32) (post : Int32 → KS → Prop) : Prop :=
  w_X11_isRow cy tE S p0 (fun r1 S2 => ((r1.toInt = 0 → w_X11_put_B17 cy tE post S2) ∧ (r1.toInt ≠ 0 → w_X11_isWithin cy tE S2 p1 767 (fun r3 S4 => ((r3.toInt ≠ 0 → (0 ≤ p0.toInt ∧ p0.toInt < 6) ∧ ((p0.toNatClampNeg) < 7) ∧ w_X7_add cy tE S4 (p0.toNatClampNeg) p1 (fun r8 S9 => post r8 S9)) ∧ (r3.toInt = 0 → w_X11_put_B17 cy tE post S4))))))

set_option maxHeartbeats 4000000 in
set_option maxRecDepth 100000 in
theorem k_X11_put {l : Launch} {D : va_G} {cy : Nat → ClassId} {T0 tB tE : Nat} {a : Nat → Nat} {rw : Nat → Option Nat} (hrw : ∀ i, i < 6 → rw i = some (a (12 + 2 * i))) (S : KS) (p0 : Int32) (p1 : Int32) (post : Int32 → KS → Prop) (h : w_X11_put cy tE S p0 p1 post) : Ct l D cy T0 tB tE yX11_put cX11_put 3 (some .int) 1 21 0 0 (kw cy a rw S) [.ref (a 0), .int p0, .int p1] (QI D (U := KS) post (kw cy a rw)) := by
  refine Ct.ofZ RX11 "put" [(0, .ref (a 0)), (1, .int p0), (2, .int p1)] rfl rfl rfl rfl (Nat.le_of_ble_eq_true rfl) ?_
  intro p e R s m args below meth c A b
  unfold w_X11_put at h
  refine z_iload_n b dX11_put_0 rfl rfl ?_
  refine z_calli b (z_runS (As := [.int p0]) (st := []) b (k_X11_isRow hrw S p0 _ h) cf_X11_isRow wm_X11_169 ws_X11_isRow dX11_put_1 rfl (Nat.le_of_ble_eq_true rfl) ⟨by decide, by decide, Nat.le_of_ble_eq_true rfl, Nat.le_of_ble_eq_true rfl⟩) (fun r1 S2 h => ?_)
  refine y_if_eq (tgt := 17) (xl := r1.toInt) b rfl dX11_put_4 (by decide) (fun c1 => ?_) (fun c1 => ?_)
  · replace h := h.1 c1
    refine z_lv0 (lv' := []) [] rfl ?_
    exact z_X11_put_B17 hrw b _ h
  · replace h := h.2 c1
    refine z_iload_n b dX11_put_7 rfl rfl ?_
    refine z_sipush (v := 767) b dX11_put_8 (by decide) ?_
    refine z_calli b (z_runS (As := [.int p1, .int 767]) (st := []) b (k_X11_isWithin hrw S2 p1 767 _ h) cf_X11_isWithin wm_X11_73 ws_X11_isWithin dX11_put_11 rfl (Nat.le_of_ble_eq_true rfl) ⟨by decide, by decide, Nat.le_of_ble_eq_true rfl, Nat.le_of_ble_eq_true rfl⟩) (fun r3 S4 h => ?_)
    refine y_if_ne (tgt := 19) (xl := r3.toInt) b rfl dX11_put_14 (by decide) (fun c1 => ?_) (fun c1 => ?_)
    · replace h := h.1 c1
      refine z_aload_n b dX11_put_19 rfl rfl ?_
      refine z_get (q0 := 0) (k9 := 7) (v := .ref (a 46)) b (kw_0 cy a rw S4) rfl in_X11 (by decide) wf_X11_58 rfl dX11_put_20 ?_
      refine z_iload_n b dX11_put_23 rfl rfl ?_
      obtain ⟨g5, h⟩ := h
      refine y_aald (q0 := 46) (t0 := 4) (j := p0.toNatClampNeg) (v := .ref (a (12 + 2 * (p0.toNatClampNeg)))) b (kw_46 cy a rw S4) rfl (zx_r g5.1 g5.2) (by rw [hrw _ (zx_lt (zx_r g5.1 g5.2))]; rfl) dX11_put_24 ?_
      refine z_iload_n b dX11_put_25 rfl rfl ?_
      obtain ⟨g7, h⟩ := h
      refine z_calli b (z_runV (q0 := 12 + 2 * (p0.toNatClampNeg)) (As := [.int p1]) (st := []) b (k_X7_add hrw S4 (p0.toNatClampNeg) p1 _ h) cf_X7_add (kw_ro cy a rw S4 g7) rfl wm_X11_172 wi_X7_add ws_X7_add dX11_put_26 rfl (Nat.le_of_ble_eq_true rfl) ⟨by decide, by decide, Nat.le_of_ble_eq_true rfl, Nat.le_of_ble_eq_true rfl⟩) (fun r8 S9 h => ?_)
      exact z_iret (u := S9) b rfl dX11_put_29 h rfl (by decide) (by decide)
    · replace h := h.2 c1
      refine z_lv0 (lv' := []) [] rfl ?_
      exact z_X11_put_B17 hrw b _ h

def w_X11_digits (cy : Nat → ClassId) (tE : Nat) (S : KS) (p0 : Int32) (post : Int32 → KS → Prop) : Prop :=
  w_X11_become cy tE S p0 0 (fun r1 S2 => w_X11_become cy tE S2 p0 1 (fun r3 S4 => w_X11_become cy tE S4 p0 2 (fun r5 S6 => post ((((100 : Int32) * r1) + ((10 : Int32) * r3)) + r5) S6)))

set_option maxHeartbeats 4000000 in
set_option maxRecDepth 100000 in
theorem k_X11_digits {l : Launch} {D : va_G} {cy : Nat → ClassId} {T0 tB tE : Nat} {a : Nat → Nat} {rw : Nat → Option Nat} (hrw : ∀ i, i < 6 → rw i = some (a (12 + 2 * i))) (S : KS) (p0 : Int32) (post : Int32 → KS → Prop) (h : w_X11_digits cy tE S p0 post) : Ct l D cy T0 tB tE yX11_digits cX11_digits 1 (some .int) 1 22 0 0 (kw cy a rw S) [.int p0] (QI D (U := KS) post (kw cy a rw)) := by
  refine Ct.ofZ RX11 "digits" [(0, .int p0)] rfl rfl rfl rfl (Nat.le_of_ble_eq_true rfl) ?_
  intro p e R s m args below meth c A b
  unfold w_X11_digits at h
  refine z_bipush (v := 100) b dX11_digits_0 (by decide) ?_
  refine z_iload_n b dX11_digits_2 rfl rfl ?_
  refine z_iconst (v := 0) b dX11_digits_3 (by decide) ?_
  refine z_calli b (z_runS (As := [.int p0, .int 0]) (st := [.int 100]) b (k_X11_become hrw S p0 0 _ h) cf_X11_become wm_X11_258 ws_X11_become dX11_digits_4 rfl (Nat.le_of_ble_eq_true rfl) ⟨by decide, by decide, Nat.le_of_ble_eq_true rfl, Nat.le_of_ble_eq_true rfl⟩) (fun r1 S2 h => ?_)
  refine z_imul b dX11_digits_7 rfl ?_
  refine z_bipush (v := 10) b dX11_digits_8 (by decide) ?_
  refine z_iload_n b dX11_digits_10 rfl rfl ?_
  refine z_iconst (v := 1) b dX11_digits_11 (by decide) ?_
  refine z_calli b (z_runS (As := [.int p0, .int 1]) (st := [.int 10, .int ((100 : Int32) * r1)]) b (k_X11_become hrw S2 p0 1 _ h) cf_X11_become wm_X11_258 ws_X11_become dX11_digits_12 rfl (Nat.le_of_ble_eq_true rfl) ⟨by decide, by decide, Nat.le_of_ble_eq_true rfl, Nat.le_of_ble_eq_true rfl⟩) (fun r3 S4 h => ?_)
  refine z_imul b dX11_digits_15 rfl ?_
  refine z_iadd b dX11_digits_16 rfl ?_
  refine z_iload_n b dX11_digits_17 rfl rfl ?_
  refine z_iconst (v := 2) b dX11_digits_18 (by decide) ?_
  refine z_calli b (z_runS (As := [.int p0, .int 2]) (st := [.int (((100 : Int32) * r1) + ((10 : Int32) * r3))]) b (k_X11_become hrw S4 p0 2 _ h) cf_X11_become wm_X11_258 ws_X11_become dX11_digits_19 rfl (Nat.le_of_ble_eq_true rfl) ⟨by decide, by decide, Nat.le_of_ble_eq_true rfl, Nat.le_of_ble_eq_true rfl⟩) (fun r5 S6 h => ?_)
  refine z_iadd b dX11_digits_22 rfl ?_
  exact z_iret (u := S6) b rfl dX11_digits_23 h rfl (by decide) (by decide)

def w_X11_coin_B16 (cy : Nat → ClassId) (tE : Nat) (post : Int32 → KS → Prop) (S : KS)  : Prop :=
  post 0 S

set_option maxHeartbeats 4000000 in
set_option maxRecDepth 100000 in
theorem z_X11_coin_B16 {p : Program} {l : Launch} {e : Env} {R : Room} {s : State} {m : MethodId} {args : Array Value} {below : List Frame} {meth : Method} {c : Code} {D : va_G} {cy : Nat → ClassId} {T0 tB tE : Nat} {A : Nat → Prop} {a : Nat → Nat} {rw : Nat → Option Nat} (hrw : ∀ i, i < 6 → rw i = some (a (12 + 2 * i))) {post : Int32 → KS → Prop} (b : Bz p R s m args meth c D cy T0 tB tE A 3 cX11_coin RX11 (some .boolean) "coin" 1 22 0 0) (S : KS)  (h : w_X11_coin_B16 cy tE post S ) : Z p l e R s m args below meth c D A 3 (MQ below (QI D (U := KS) post (kw cy a rw) A) args s 0 0 A) 0 0 (kw cy a rw S) [] 16 [] := by
  unfold w_X11_coin_B16 at h
  refine z_iconst (v := 0) b dX11_coin_16 (by decide) ?_
  exact z_zret (u := S) b rfl (by decide) dX11_coin_17 h rfl (by decide) (by decide)

def w_X11_coin (cy : Nat → ClassId) (tE : Nat) (S : KS) (p0 : Int32) (p1 : Int32) (post : Int32 → KS → Prop) : Prop :=
  w_X11_isPerson cy tE S p0 (fun r1 S2 => ((r1.toInt = 0 → w_X11_coin_B16 cy tE post S2) ∧ (r1.toInt ≠ 0 → w_X11_isWithin cy tE S2 p1 15 (fun r3 S4 => ((r3.toInt ≠ 0 → w_X9_set cy tE S4 0 p0 p1 (fun S6 => w_X8_forget cy tE S6 (fun S8 => post 1 S8))) ∧ (r3.toInt = 0 → w_X11_coin_B16 cy tE post S4))))))

set_option maxHeartbeats 4000000 in
set_option maxRecDepth 100000 in
theorem k_X11_coin {l : Launch} {D : va_G} {cy : Nat → ClassId} {T0 tB tE : Nat} {a : Nat → Nat} {rw : Nat → Option Nat} (hrw : ∀ i, i < 6 → rw i = some (a (12 + 2 * i))) (S : KS) (p0 : Int32) (p1 : Int32) (post : Int32 → KS → Prop) (h : w_X11_coin cy tE S p0 p1 post) : Ct l D cy T0 tB tE yX11_coin cX11_coin 3 (some .boolean) 1 22 0 0 (kw cy a rw S) [.ref (a 0), .int p0, .int p1] (QI D (U := KS) post (kw cy a rw)) := by
  refine Ct.ofZ RX11 "coin" [(0, .ref (a 0)), (1, .int p0), (2, .int p1)] rfl rfl rfl rfl (Nat.le_of_ble_eq_true rfl) ?_
  intro p e R s m args below meth c A b
  unfold w_X11_coin at h
  refine z_iload_n b dX11_coin_0 rfl rfl ?_
  refine z_calli b (z_runS (As := [.int p0]) (st := []) b (k_X11_isPerson hrw S p0 _ h) cf_X11_isPerson wm_X11_69 ws_X11_isPerson dX11_coin_1 rfl (Nat.le_of_ble_eq_true rfl) ⟨by decide, by decide, Nat.le_of_ble_eq_true rfl, Nat.le_of_ble_eq_true rfl⟩) (fun r1 S2 h => ?_)
  refine y_if_eq (tgt := 16) (xl := r1.toInt) b rfl dX11_coin_4 (by decide) (fun c1 => ?_) (fun c1 => ?_)
  · replace h := h.1 c1
    refine z_lv0 (lv' := []) [] rfl ?_
    exact z_X11_coin_B16 hrw b _ h
  · replace h := h.2 c1
    refine z_iload_n b dX11_coin_7 rfl rfl ?_
    refine z_bipush (v := 15) b dX11_coin_8 (by decide) ?_
    refine z_calli b (z_runS (As := [.int p1, .int 15]) (st := []) b (k_X11_isWithin hrw S2 p1 15 _ h) cf_X11_isWithin wm_X11_73 ws_X11_isWithin dX11_coin_10 rfl (Nat.le_of_ble_eq_true rfl) ⟨by decide, by decide, Nat.le_of_ble_eq_true rfl, Nat.le_of_ble_eq_true rfl⟩) (fun r3 S4 h => ?_)
    refine y_if_ne (tgt := 18) (xl := r3.toInt) b rfl dX11_coin_13 (by decide) (fun c1 => ?_) (fun c1 => ?_)
    · replace h := h.1 c1
      refine z_aload_n b dX11_coin_18 rfl rfl ?_
      refine z_get (q0 := 0) (k9 := 4) (v := .ref (a 2)) b (kw_0 cy a rw S4) rfl in_X11 (by decide) wf_X11_34 rfl dX11_coin_19 ?_
      refine z_iload_n b dX11_coin_22 rfl rfl ?_
      refine z_iload_n b dX11_coin_23 rfl rfl ?_
      refine z_callv b (z_runV (q0 := 2) (As := [.int p0, .int p1]) (st := []) b (k_X9_set hrw S4 0 p0 p1 _ h) cf_X9_set (kw_2 cy a rw S4) rfl wm_X11_77 wi_X9_set ws_X9_set dX11_coin_24 rfl (Nat.le_of_ble_eq_true rfl) ⟨by decide, by decide, Nat.le_of_ble_eq_true rfl, Nat.le_of_ble_eq_true rfl⟩) (fun S6 h => ?_)
      refine z_aload_n b dX11_coin_27 rfl rfl ?_
      refine z_get (q0 := 0) (k9 := 6) (v := .ref (a 38)) b (kw_0 cy a rw S6) rfl in_X11 (by decide) wf_X11_52 rfl dX11_coin_28 ?_
      refine z_callv b (z_runV (q0 := 38) (As := []) (st := []) b (k_X8_forget hrw S6 _ h) cf_X8_forget (kw_38 cy a rw S6) rfl wm_X11_81 wi_X8_forget ws_X8_forget dX11_coin_31 rfl (Nat.le_of_ble_eq_true rfl) ⟨by decide, by decide, Nat.le_of_ble_eq_true rfl, Nat.le_of_ble_eq_true rfl⟩) (fun S8 h => ?_)
      refine z_iconst (v := 1) b dX11_coin_34 (by decide) ?_
      exact z_zret (u := S8) b rfl (by decide) dX11_coin_35 h rfl (by decide) (by decide)
    · replace h := h.2 c1
      refine z_lv0 (lv' := []) [] rfl ?_
      exact z_X11_coin_B16 hrw b _ h

def w_X11_clear (cy : Nat → ClassId) (tE : Nat) (S : KS) (p0 : Int32) (post : Int32 → KS → Prop) : Prop :=
  w_X11_isRow cy tE S p0 (fun r1 S2 => ((r1.toInt ≠ 0 → (0 ≤ p0.toInt ∧ p0.toInt < 6) ∧ ((p0.toNatClampNeg) < 7) ∧ (0 ≤ p0.toInt ∧ p0.toInt < 6) ∧ ((p0.toNatClampNeg) < 7) ∧ post 1 (ksi (ksi S2 (1 + 2 * (p0.toNatClampNeg)) 0) (2 + 2 * (p0.toNatClampNeg)) 0)) ∧ (r1.toInt = 0 → post 0 S2)))

set_option maxHeartbeats 4000000 in
set_option maxRecDepth 100000 in
theorem k_X11_clear {l : Launch} {D : va_G} {cy : Nat → ClassId} {T0 tB tE : Nat} {a : Nat → Nat} {rw : Nat → Option Nat} (hrw : ∀ i, i < 6 → rw i = some (a (12 + 2 * i))) (S : KS) (p0 : Int32) (post : Int32 → KS → Prop) (h : w_X11_clear cy tE S p0 post) : Ct l D cy T0 tB tE yX11_clear cX11_clear 2 (some .boolean) 1 20 0 0 (kw cy a rw S) [.ref (a 0), .int p0] (QI D (U := KS) post (kw cy a rw)) := by
  refine Ct.ofZ RX11 "clear" [(0, .ref (a 0)), (1, .int p0)] rfl rfl rfl rfl (Nat.le_of_ble_eq_true rfl) ?_
  intro p e R s m args below meth c A b
  unfold w_X11_clear at h
  refine z_iload_n b dX11_clear_0 rfl rfl ?_
  refine z_calli b (z_runS (As := [.int p0]) (st := []) b (k_X11_isRow hrw S p0 _ h) cf_X11_isRow wm_X11_169 ws_X11_isRow dX11_clear_1 rfl (Nat.le_of_ble_eq_true rfl) ⟨by decide, by decide, Nat.le_of_ble_eq_true rfl, Nat.le_of_ble_eq_true rfl⟩) (fun r1 S2 h => ?_)
  refine y_if_ne (tgt := 9) (xl := r1.toInt) b rfl dX11_clear_4 (by decide) (fun c1 => ?_) (fun c1 => ?_)
  · replace h := h.1 c1
    refine z_aload_n b dX11_clear_9 rfl rfl ?_
    refine z_get (q0 := 0) (k9 := 7) (v := .ref (a 46)) b (kw_0 cy a rw S2) rfl in_X11 (by decide) wf_X11_58 rfl dX11_clear_10 ?_
    refine z_iload_n b dX11_clear_13 rfl rfl ?_
    obtain ⟨g3, h⟩ := h
    refine y_aald (q0 := 46) (t0 := 4) (j := p0.toNatClampNeg) (v := .ref (a (12 + 2 * (p0.toNatClampNeg)))) b (kw_46 cy a rw S2) rfl (zx_r g3.1 g3.2) (by rw [hrw _ (zx_lt (zx_r g3.1 g3.2))]; rfl) dX11_clear_14 ?_
    refine z_iconst (v := 0) b dX11_clear_15 (by decide) ?_
    obtain ⟨g5, h⟩ := h
    refine z_put (q0 := 12 + 2 * (p0.toNatClampNeg)) (k9 := 1) tyX7 b (kw_ro cy a rw S2 g5) rfl in_X7 tyX7_ok nmX7 (by decide) wf_X11_175 rfl rfl rfl rfl (Nat.le_of_ble_eq_true rfl) dX11_clear_16 (kwp_ro_1 cy a rw S2 g5 0) ?_
    refine z_aload_n b dX11_clear_19 rfl rfl ?_
    refine z_get (q0 := 0) (k9 := 7) (v := .ref (a 46)) b (kw_0 cy a rw (ksi S2 (1 + 2 * (p0.toNatClampNeg)) 0)) rfl in_X11 (by decide) wf_X11_58 rfl dX11_clear_20 ?_
    refine z_iload_n b dX11_clear_23 rfl rfl ?_
    obtain ⟨g6, h⟩ := h
    refine y_aald (q0 := 46) (t0 := 4) (j := p0.toNatClampNeg) (v := .ref (a (12 + 2 * (p0.toNatClampNeg)))) b (kw_46 cy a rw (ksi S2 (1 + 2 * (p0.toNatClampNeg)) 0)) rfl (zx_r g6.1 g6.2) (by rw [hrw _ (zx_lt (zx_r g6.1 g6.2))]; rfl) dX11_clear_24 ?_
    refine z_iconst (v := 0) b dX11_clear_25 (by decide) ?_
    obtain ⟨g8, h⟩ := h
    refine z_put (q0 := 12 + 2 * (p0.toNatClampNeg)) (k9 := 2) tyX7 b (kw_ro cy a rw (ksi S2 (1 + 2 * (p0.toNatClampNeg)) 0) g8) rfl in_X7 tyX7_ok nmX7 (by decide) wf_X11_178 rfl rfl rfl rfl (Nat.le_of_ble_eq_true rfl) dX11_clear_26 (kwp_ro_2 cy a rw (ksi S2 (1 + 2 * (p0.toNatClampNeg)) 0) g8 0) ?_
    refine z_iconst (v := 1) b dX11_clear_29 (by decide) ?_
    exact z_zret (u := (ksi (ksi S2 (1 + 2 * (p0.toNatClampNeg)) 0) (2 + 2 * (p0.toNatClampNeg)) 0)) b rfl (by decide) dX11_clear_30 h rfl (by decide) (by decide)
  · replace h := h.2 c1
    refine z_iconst (v := 0) b dX11_clear_7 (by decide) ?_
    exact z_zret (u := S2) b rfl (by decide) dX11_clear_8 h rfl (by decide) (by decide)

def w_X11_honest_B20 (cy : Nat → ClassId) (tE : Nat) (post : Int32 → KS → Prop) (S : KS)  : Prop :=
  post 0 S

set_option maxHeartbeats 4000000 in
set_option maxRecDepth 100000 in
theorem z_X11_honest_B20 {p : Program} {l : Launch} {e : Env} {R : Room} {s : State} {m : MethodId} {args : Array Value} {below : List Frame} {meth : Method} {c : Code} {D : va_G} {cy : Nat → ClassId} {T0 tB tE : Nat} {A : Nat → Prop} {a : Nat → Nat} {rw : Nat → Option Nat} (hrw : ∀ i, i < 6 → rw i = some (a (12 + 2 * i))) {post : Int32 → KS → Prop} (b : Bz p R s m args meth c D cy T0 tB tE A 3 cX11_honest RX11 (some .boolean) "honest" 1 20 0 0) (S : KS)  (h : w_X11_honest_B20 cy tE post S ) : Z p l e R s m args below meth c D A 3 (MQ below (QI D (U := KS) post (kw cy a rw) A) args s 0 0 A) 0 0 (kw cy a rw S) [] 20 [] := by
  unfold w_X11_honest_B20 at h
  refine z_iconst (v := 0) b dX11_honest_20 (by decide) ?_
  exact z_zret (u := S) b rfl (by decide) dX11_honest_21 h rfl (by decide) (by decide)

def w_X11_honest (cy : Nat → ClassId) (tE : Nat) (S : KS) (p0 : Int32) (p1 : Int32) (post : Int32 → KS → Prop) : Prop :=
  w_X11_isRow cy tE S p0 (fun r1 S2 => ((r1.toInt = 0 → w_X11_honest_B20 cy tE post S2) ∧ (r1.toInt ≠ 0 → (0 ≤ p0.toInt ∧ p0.toInt < 6) ∧ ((p0.toNatClampNeg) < 7) ∧ (((fi S2.1 (2 + 2 * (p0.toNatClampNeg))).toInt ≠ p1.toInt → (0 ≤ p0.toInt ∧ p0.toInt < 6) ∧ (p1 = 0 ∨ p1 = 1) ∧ ((p0.toNatClampNeg) < 7) ∧ post 1 (ksi S2 (2 + 2 * (p0.toNatClampNeg)) p1)) ∧ ((fi S2.1 (2 + 2 * (p0.toNatClampNeg))).toInt = p1.toInt → w_X11_honest_B20 cy tE post S2)))))

set_option maxHeartbeats 4000000 in
set_option maxRecDepth 100000 in
theorem k_X11_honest {l : Launch} {D : va_G} {cy : Nat → ClassId} {T0 tB tE : Nat} {a : Nat → Nat} {rw : Nat → Option Nat} (hrw : ∀ i, i < 6 → rw i = some (a (12 + 2 * i))) (S : KS) (p0 : Int32) (p1 : Int32) (post : Int32 → KS → Prop) (h : w_X11_honest cy tE S p0 p1 post) : Ct l D cy T0 tB tE yX11_honest cX11_honest 3 (some .boolean) 1 20 0 0 (kw cy a rw S) [.ref (a 0), .int p0, .int p1] (QI D (U := KS) post (kw cy a rw)) := by
  refine Ct.ofZ RX11 "honest" [(0, .ref (a 0)), (1, .int p0), (2, .int p1)] rfl rfl rfl rfl (Nat.le_of_ble_eq_true rfl) ?_
  intro p e R s m args below meth c A b
  unfold w_X11_honest at h
  refine z_iload_n b dX11_honest_0 rfl rfl ?_
  refine z_calli b (z_runS (As := [.int p0]) (st := []) b (k_X11_isRow hrw S p0 _ h) cf_X11_isRow wm_X11_169 ws_X11_isRow dX11_honest_1 rfl (Nat.le_of_ble_eq_true rfl) ⟨by decide, by decide, Nat.le_of_ble_eq_true rfl, Nat.le_of_ble_eq_true rfl⟩) (fun r1 S2 h => ?_)
  refine y_if_eq (tgt := 20) (xl := r1.toInt) b rfl dX11_honest_4 (by decide) (fun c1 => ?_) (fun c1 => ?_)
  · replace h := h.1 c1
    refine z_lv0 (lv' := []) [] rfl ?_
    exact z_X11_honest_B20 hrw b _ h
  · replace h := h.2 c1
    refine z_aload_n b dX11_honest_7 rfl rfl ?_
    refine z_get (q0 := 0) (k9 := 7) (v := .ref (a 46)) b (kw_0 cy a rw S2) rfl in_X11 (by decide) wf_X11_58 rfl dX11_honest_8 ?_
    refine z_iload_n b dX11_honest_11 rfl rfl ?_
    obtain ⟨g3, h⟩ := h
    refine y_aald (q0 := 46) (t0 := 4) (j := p0.toNatClampNeg) (v := .ref (a (12 + 2 * (p0.toNatClampNeg)))) b (kw_46 cy a rw S2) rfl (zx_r g3.1 g3.2) (by rw [hrw _ (zx_lt (zx_r g3.1 g3.2))]; rfl) dX11_honest_12 ?_
    obtain ⟨g5, h⟩ := h
    refine z_get (q0 := 12 + 2 * (p0.toNatClampNeg)) (k9 := 2) (v := .int (fi S2.1 (2 + 2 * (p0.toNatClampNeg)))) b (kw_ro cy a rw S2 g5) rfl in_X7 (by decide) wf_X11_178 rfl dX11_honest_13 ?_
    refine z_iload_n b dX11_honest_16 rfl rfl ?_
    refine y_icmp_ne (tgt := 22) (xl := (fi S2.1 (2 + 2 * (p0.toNatClampNeg))).toInt) (yl := p1.toInt) b rfl rfl dX11_honest_17 (by decide) (fun c1 => ?_) (fun c1 => ?_)
    · replace h := h.1 c1
      refine z_aload_n b dX11_honest_22 rfl rfl ?_
      refine z_get (q0 := 0) (k9 := 7) (v := .ref (a 46)) b (kw_0 cy a rw S2) rfl in_X11 (by decide) wf_X11_58 rfl dX11_honest_23 ?_
      refine z_iload_n b dX11_honest_26 rfl rfl ?_
      obtain ⟨g6, h⟩ := h
      refine y_aald (q0 := 46) (t0 := 4) (j := p0.toNatClampNeg) (v := .ref (a (12 + 2 * (p0.toNatClampNeg)))) b (kw_46 cy a rw S2) rfl (zx_r g6.1 g6.2) (by rw [hrw _ (zx_lt (zx_r g6.1 g6.2))]; rfl) dX11_honest_27 ?_
      refine z_iload_n b dX11_honest_28 rfl rfl ?_
      obtain ⟨g8, h⟩ := h
      obtain ⟨g9, h⟩ := h
      refine z_put (q0 := 12 + 2 * (p0.toNatClampNeg)) (k9 := 2) tyX7 b (kw_ro cy a rw S2 g9) rfl in_X7 tyX7_ok nmX7 (by decide) wf_X11_178 rfl rfl (z_bool g8) (z_boolf g8) (Nat.le_of_ble_eq_true rfl) dX11_honest_29 (kwp_ro_2 cy a rw S2 g9 p1) ?_
      refine z_iconst (v := 1) b dX11_honest_32 (by decide) ?_
      exact z_zret (u := (ksi S2 (2 + 2 * (p0.toNatClampNeg)) p1)) b rfl (by decide) dX11_honest_33 h rfl (by decide) (by decide)
    · replace h := h.2 c1
      refine z_lv0 (lv' := []) [] rfl ?_
      exact z_X11_honest_B20 hrw b _ h

def w_X11_owner_B15 (cy : Nat → ClassId) (tE : Nat) (post : Int32 → KS → Prop) (S : KS)  : Prop :=
  post 0 S

set_option maxHeartbeats 4000000 in
set_option maxRecDepth 100000 in
theorem z_X11_owner_B15 {p : Program} {l : Launch} {e : Env} {R : Room} {s : State} {m : MethodId} {args : Array Value} {below : List Frame} {meth : Method} {c : Code} {D : va_G} {cy : Nat → ClassId} {T0 tB tE : Nat} {A : Nat → Prop} {a : Nat → Nat} {rw : Nat → Option Nat} (hrw : ∀ i, i < 6 → rw i = some (a (12 + 2 * i))) {post : Int32 → KS → Prop} (b : Bz p R s m args meth c D cy T0 tB tE A 3 cX11_owner RX11 (some .boolean) "owner" 1 22 0 0) (S : KS)  (h : w_X11_owner_B15 cy tE post S ) : Z p l e R s m args below meth c D A 3 (MQ below (QI D (U := KS) post (kw cy a rw) A) args s 0 0 A) 0 0 (kw cy a rw S) [] 15 [] := by
  unfold w_X11_owner_B15 at h
  refine z_iconst (v := 0) b dX11_owner_15 (by decide) ?_
  exact z_zret (u := S) b rfl (by decide) dX11_owner_16 h rfl (by decide) (by decide)

def w_X11_owner (cy : Nat → ClassId) (tE : Nat) (S : KS) (p0 : Int32) (p1 : Int32) (post : Int32 → KS → Prop) : Prop :=
  w_X11_isThing cy tE S p0 (fun r1 S2 => ((r1.toInt = 0 → w_X11_owner_B15 cy tE post S2) ∧ (r1.toInt ≠ 0 → w_X11_isWithin cy tE S2 p1 3 (fun r3 S4 => ((r3.toInt ≠ 0 → w_X9_set cy tE S4 0 ((40 : Int32) + p0) p1 (fun S6 => w_X8_forget cy tE S6 (fun S8 => post 1 S8))) ∧ (r3.toInt = 0 → w_X11_owner_B15 cy tE post S4))))))

set_option maxHeartbeats 4000000 in
set_option maxRecDepth 100000 in
theorem k_X11_owner {l : Launch} {D : va_G} {cy : Nat → ClassId} {T0 tB tE : Nat} {a : Nat → Nat} {rw : Nat → Option Nat} (hrw : ∀ i, i < 6 → rw i = some (a (12 + 2 * i))) (S : KS) (p0 : Int32) (p1 : Int32) (post : Int32 → KS → Prop) (h : w_X11_owner cy tE S p0 p1 post) : Ct l D cy T0 tB tE yX11_owner cX11_owner 3 (some .boolean) 1 22 0 0 (kw cy a rw S) [.ref (a 0), .int p0, .int p1] (QI D (U := KS) post (kw cy a rw)) := by
  refine Ct.ofZ RX11 "owner" [(0, .ref (a 0)), (1, .int p0), (2, .int p1)] rfl rfl rfl rfl (Nat.le_of_ble_eq_true rfl) ?_
  intro p e R s m args below meth c A b
  unfold w_X11_owner at h
  refine z_iload_n b dX11_owner_0 rfl rfl ?_
  refine z_calli b (z_runS (As := [.int p0]) (st := []) b (k_X11_isThing hrw S p0 _ h) cf_X11_isThing wm_X11_87 ws_X11_isThing dX11_owner_1 rfl (Nat.le_of_ble_eq_true rfl) ⟨by decide, by decide, Nat.le_of_ble_eq_true rfl, Nat.le_of_ble_eq_true rfl⟩) (fun r1 S2 h => ?_)
  refine y_if_eq (tgt := 15) (xl := r1.toInt) b rfl dX11_owner_4 (by decide) (fun c1 => ?_) (fun c1 => ?_)
  · replace h := h.1 c1
    refine z_lv0 (lv' := []) [] rfl ?_
    exact z_X11_owner_B15 hrw b _ h
  · replace h := h.2 c1
    refine z_iload_n b dX11_owner_7 rfl rfl ?_
    refine z_iconst (v := 3) b dX11_owner_8 (by decide) ?_
    refine z_calli b (z_runS (As := [.int p1, .int 3]) (st := []) b (k_X11_isWithin hrw S2 p1 3 _ h) cf_X11_isWithin wm_X11_73 ws_X11_isWithin dX11_owner_9 rfl (Nat.le_of_ble_eq_true rfl) ⟨by decide, by decide, Nat.le_of_ble_eq_true rfl, Nat.le_of_ble_eq_true rfl⟩) (fun r3 S4 h => ?_)
    refine y_if_ne (tgt := 17) (xl := r3.toInt) b rfl dX11_owner_12 (by decide) (fun c1 => ?_) (fun c1 => ?_)
    · replace h := h.1 c1
      refine z_aload_n b dX11_owner_17 rfl rfl ?_
      refine z_get (q0 := 0) (k9 := 4) (v := .ref (a 2)) b (kw_0 cy a rw S4) rfl in_X11 (by decide) wf_X11_34 rfl dX11_owner_18 ?_
      refine z_bipush (v := 40) b dX11_owner_21 (by decide) ?_
      refine z_iload_n b dX11_owner_23 rfl rfl ?_
      refine z_iadd b dX11_owner_24 rfl ?_
      refine z_iload_n b dX11_owner_25 rfl rfl ?_
      refine z_callv b (z_runV (q0 := 2) (As := [.int ((40 : Int32) + p0), .int p1]) (st := []) b (k_X9_set hrw S4 0 ((40 : Int32) + p0) p1 _ h) cf_X9_set (kw_2 cy a rw S4) rfl wm_X11_77 wi_X9_set ws_X9_set dX11_owner_26 rfl (Nat.le_of_ble_eq_true rfl) ⟨by decide, by decide, Nat.le_of_ble_eq_true rfl, Nat.le_of_ble_eq_true rfl⟩) (fun S6 h => ?_)
      refine z_aload_n b dX11_owner_29 rfl rfl ?_
      refine z_get (q0 := 0) (k9 := 6) (v := .ref (a 38)) b (kw_0 cy a rw S6) rfl in_X11 (by decide) wf_X11_52 rfl dX11_owner_30 ?_
      refine z_callv b (z_runV (q0 := 38) (As := []) (st := []) b (k_X8_forget hrw S6 _ h) cf_X8_forget (kw_38 cy a rw S6) rfl wm_X11_81 wi_X8_forget ws_X8_forget dX11_owner_33 rfl (Nat.le_of_ble_eq_true rfl) ⟨by decide, by decide, Nat.le_of_ble_eq_true rfl, Nat.le_of_ble_eq_true rfl⟩) (fun S8 h => ?_)
      refine z_iconst (v := 1) b dX11_owner_36 (by decide) ?_
      exact z_zret (u := S8) b rfl (by decide) dX11_owner_37 h rfl (by decide) (by decide)
    · replace h := h.2 c1
      refine z_lv0 (lv' := []) [] rfl ?_
      exact z_X11_owner_B15 hrw b _ h

def w_Jxa1e45_init_da8c8 (cy : Nat → ClassId) (tE : Nat) (S : KS) (p9 : Nat) (post : KS → Prop) : Prop :=
  post S

set_option maxHeartbeats 4000000 in
set_option maxRecDepth 100000 in
theorem k_Jxa1e45_init_da8c8 {l : Launch} {D : va_G} {cy : Nat → ClassId} {T0 tB tE : Nat} {a : Nat → Nat} {rw : Nat → Option Nat} (hrw : ∀ i, i < 6 → rw i = some (a (12 + 2 * i))) (S : KS) (p9 : Nat) (post : KS → Prop) (h : w_Jxa1e45_init_da8c8 cy tE S p9 post) : Ct l D cy T0 tB tE yJxa1e45_init_da8c8 cJxa1e45_init_da8c8 1 none 1 20 0 0 (kw cy a rw S) [.ref p9] (QV D (U := KS) post (kw cy a rw)) := by
  refine Ct.ofZ RJxa1e45 "<init>" [(0, .ref p9)] rfl rfl rfl rfl (Nat.le_of_ble_eq_true rfl) ?_
  intro p e R s m args below meth c A b
  unfold w_Jxa1e45_init_da8c8 at h
  refine z_aload_n b dJxa1e45_init_da8c8_0 rfl rfl ?_
  refine z_objInit b wm_Jxa1e45_1 wi_objInit wc_objInit dJxa1e45_init_da8c8_1 (by decide) (Nat.le_of_ble_eq_true rfl) ?_
  exact z_vret (u := S) b rfl dJxa1e45_init_da8c8_4 h rfl (by decide) (by decide)

def w_Jxc12de_init_da8c8 (cy : Nat → ClassId) (tE : Nat) (S : KS) (p9 : Nat) (post : KS → Prop) : Prop :=
  w_Jxa1e45_init_da8c8 cy tE S p9 (fun S2 => ∃ (i3 : Nat) (f4 : Int32) (f5 : Nat) (f6 : Int32), S2.2.2.2[i3]? = some (p9, .inr (0, [.int f4, .ref f5, .int f6])) ∧ post (ksL S2 (S2.2.2.2.set i3 (p9, .inr (0, [.int 0, .ref f5, .int f6])))))

set_option maxHeartbeats 4000000 in
set_option maxRecDepth 100000 in
theorem k_Jxc12de_init_da8c8 {l : Launch} {D : va_G} {cy : Nat → ClassId} {T0 tB tE : Nat} {a : Nat → Nat} {rw : Nat → Option Nat} (hrw : ∀ i, i < 6 → rw i = some (a (12 + 2 * i))) (S : KS) (p9 : Nat) (post : KS → Prop) (h : w_Jxc12de_init_da8c8 cy tE S p9 post) : Ct l D cy T0 tB tE yJxc12de_init_da8c8 cJxc12de_init_da8c8 1 none 2 40 0 0 (kw cy a rw S) [.ref p9] (QV D (U := KS) post (kw cy a rw)) := by
  refine Ct.ofZ RJxc12de "<init>" [(0, .ref p9)] rfl rfl rfl rfl (Nat.le_of_ble_eq_true rfl) ?_
  intro p e R s m args below meth c A b
  unfold w_Jxc12de_init_da8c8 at h
  refine z_aload_n b dJxc12de_init_da8c8_0 rfl rfl ?_
  refine z_callv b (z_runI (As := []) (st := []) b (k_Jxa1e45_init_da8c8 hrw S p9 _ h) cf_Jxa1e45_init_da8c8 wm_Jxc12de_1 wi_Jxa1e45_init_da8c8 rfl dJxc12de_init_da8c8_1 rfl (Nat.le_of_ble_eq_true rfl) ⟨by decide, by decide, Nat.le_of_ble_eq_true rfl, Nat.le_of_ble_eq_true rfl⟩) (fun S2 h => ?_)
  refine z_aload_n b dJxc12de_init_da8c8_4 rfl rfl ?_
  refine z_iconst (v := 0) b dJxc12de_init_da8c8_5 (by decide) ?_
  obtain ⟨i3, f4, f5, f6, g7, h⟩ := h
  refine z_put (q0 := 47 + i3) (k9 := 0) tyJx4a65c b (kw_dyn cy a rw S2 g7) rfl in_Jx4a65c tyJx4a65c_ok nmJx4a65c (by decide) wf_Jxc12de_7 rfl rfl rfl rfl (Nat.le_of_ble_eq_true rfl) dJxc12de_init_da8c8_6 (kw_dset cy a rw S2 i3 (p9, .inr (0, [.int 0, .ref f5, .int f6]))) ?_
  exact z_vret (u := (ksL S2 (S2.2.2.2.set i3 (p9, .inr (0, [.int 0, .ref f5, .int f6]))))) b rfl dJxc12de_init_da8c8_9 h rfl (by decide) (by decide)

def w_Jx4a65c_init_da8c8 (cy : Nat → ClassId) (tE : Nat) (S : KS) (p9 : Nat) (post : KS → Prop) : Prop :=
  w_Jxc12de_init_da8c8 cy tE S p9 (fun S2 => ∃ (i3 : Nat) (f4 : Int32) (f5 : Nat) (f6 : Int32), S2.2.2.2[i3]? = some (p9, .inr (0, [.int f4, .ref f5, .int f6])) ∧ post (ksL S2 (S2.2.2.2.set i3 (p9, .inr (0, [.int f4, .ref tE, .int f6])))))

set_option maxHeartbeats 4000000 in
set_option maxRecDepth 100000 in
theorem k_Jx4a65c_init_da8c8 {l : Launch} {D : va_G} {cy : Nat → ClassId} {T0 tB tE : Nat} {a : Nat → Nat} {rw : Nat → Option Nat} (hrw : ∀ i, i < 6 → rw i = some (a (12 + 2 * i))) (S : KS) (p9 : Nat) (post : KS → Prop) (h : w_Jx4a65c_init_da8c8 cy tE S p9 post) : Ct l D cy T0 tB tE yJx4a65c_init_da8c8 cJx4a65c_init_da8c8 1 none 3 60 0 0 (kw cy a rw S) [.ref p9] (QV D (U := KS) post (kw cy a rw)) := by
  refine Ct.ofZ RJx4a65c "<init>" [(0, .ref p9)] rfl rfl rfl rfl (Nat.le_of_ble_eq_true rfl) ?_
  intro p e R s m args below meth c A b
  unfold w_Jx4a65c_init_da8c8 at h
  refine z_aload_n b dJx4a65c_init_da8c8_0 rfl rfl ?_
  refine z_callv b (z_runI (As := []) (st := []) b (k_Jxc12de_init_da8c8 hrw S p9 _ h) cf_Jxc12de_init_da8c8 wm_Jx4a65c_1 wi_Jxc12de_init_da8c8 rfl dJx4a65c_init_da8c8_1 rfl (Nat.le_of_ble_eq_true rfl) ⟨by decide, by decide, Nat.le_of_ble_eq_true rfl, Nat.le_of_ble_eq_true rfl⟩) (fun S2 h => ?_)
  refine z_aload_n b dJx4a65c_init_da8c8_4 rfl rfl ?_
  refine z_getE b wf_Jx4a65c_39 dJx4a65c_init_da8c8_5 ?_
  obtain ⟨i3, f4, f5, f6, g7, h⟩ := h
  refine z_put (q0 := 47 + i3) (k9 := 1) tyJx4a65c b (kw_dyn cy a rw S2 g7) rfl in_Jx4a65c tyJx4a65c_ok nmJx4a65c (by decide) wf_Jx4a65c_9 rfl rfl rfl rfl (Nat.le_of_ble_eq_true rfl) dJx4a65c_init_da8c8_8 (kw_dset cy a rw S2 i3 (p9, .inr (0, [.int f4, .ref tE, .int f6]))) ?_
  exact z_vret (u := (ksL S2 (S2.2.2.2.set i3 (p9, .inr (0, [.int f4, .ref tE, .int f6]))))) b rfl dJx4a65c_init_da8c8_11 h rfl (by decide) (by decide)

def w_X0_init (cy : Nat → ClassId) (tE : Nat) (mc ms : Nat) (S : KS) (p9 : Nat) (p0 : Int64) (post : KS → Prop) : Prop :=
  (0 + 1 ≤ mc ∧ 0 + 3 ≤ ms) ∧ ∀ q2 : Nat, ((0 + 1) ≤ mc ∧ (0 + 3) ≤ ms) ∧ w_Jx4a65c_init_da8c8 cy tE (ksL S (S.2.2.2 ++ [(q2, .inr (0, [.int 0, .null, .int 0]))])) q2 (fun S5 => ∃ (i6 : Nat) (f7 : Int64) (f8 : Nat) (f9 : Nat) (f10 : Int32) (f11 : Int32), S5.2.2.2[i6]? = some (p9, .inr (1, [.long f7, .ref f8, .ref f9, .int f10, .int f11])) ∧ ((0 + 1) + 1 ≤ mc ∧ (0 + 3) + 3 ≤ ms) ∧ ∀ q14 : Nat, (((0 + 1) + 1) ≤ mc ∧ ((0 + 3) + 3) ≤ ms) ∧ w_Jx4a65c_init_da8c8 cy tE (ksL (ksL S5 (S5.2.2.2.set i6 (p9, .inr (1, [.long f7, .ref q2, .ref f9, .int f10, .int f11])))) ((S5.2.2.2.set i6 (p9, .inr (1, [.long f7, .ref q2, .ref f9, .int f10, .int f11]))) ++ [(q14, .inr (0, [.int 0, .null, .int 0]))])) q14 (fun S17 => ∃ (i18 : Nat) (f19 : Int64) (f20 : Nat) (f21 : Nat) (f22 : Int32) (f23 : Int32), S17.2.2.2[i18]? = some (p9, .inr (1, [.long f19, .ref f20, .ref f21, .int f22, .int f23])) ∧ ∃ (i25 : Nat) (f26 : Int64) (f27 : Nat) (f28 : Nat) (f29 : Int32) (f30 : Int32), (S17.2.2.2.set i18 (p9, .inr (1, [.long f19, .ref f20, .ref q14, .int f22, .int f23])))[i25]? = some (p9, .inr (1, [.long f26, .ref f27, .ref f28, .int f29, .int f30])) ∧ ∃ (i32 : Nat) (f33 : Int64) (f34 : Nat) (f35 : Nat) (f36 : Int32) (f37 : Int32), ((S17.2.2.2.set i18 (p9, .inr (1, [.long f19, .ref f20, .ref q14, .int f22, .int f23]))).set i25 (p9, .inr (1, [.long f26, .ref f27, .ref f28, .int 0, .int f30])))[i32]? = some (p9, .inr (1, [.long f33, .ref f34, .ref f35, .int f36, .int f37])) ∧ ∃ (i39 : Nat) (f40 : Int64) (f41 : Nat) (f42 : Nat) (f43 : Int32) (f44 : Int32), (((S17.2.2.2.set i18 (p9, .inr (1, [.long f19, .ref f20, .ref q14, .int f22, .int f23]))).set i25 (p9, .inr (1, [.long f26, .ref f27, .ref f28, .int 0, .int f30]))).set i32 (p9, .inr (1, [.long f33, .ref f34, .ref f35, .int f36, .int 0])))[i39]? = some (p9, .inr (1, [.long f40, .ref f41, .ref f42, .int f43, .int f44])) ∧ (((0 + 1) + 1) ≤ mc ∧ ((0 + 3) + 3) ≤ ms) ∧ post (ksL (ksL (ksL (ksL S17 (S17.2.2.2.set i18 (p9, .inr (1, [.long f19, .ref f20, .ref q14, .int f22, .int f23])))) ((S17.2.2.2.set i18 (p9, .inr (1, [.long f19, .ref f20, .ref q14, .int f22, .int f23]))).set i25 (p9, .inr (1, [.long f26, .ref f27, .ref f28, .int 0, .int f30])))) (((S17.2.2.2.set i18 (p9, .inr (1, [.long f19, .ref f20, .ref q14, .int f22, .int f23]))).set i25 (p9, .inr (1, [.long f26, .ref f27, .ref f28, .int 0, .int f30]))).set i32 (p9, .inr (1, [.long f33, .ref f34, .ref f35, .int f36, .int 0])))) ((((S17.2.2.2.set i18 (p9, .inr (1, [.long f19, .ref f20, .ref q14, .int f22, .int f23]))).set i25 (p9, .inr (1, [.long f26, .ref f27, .ref f28, .int 0, .int f30]))).set i32 (p9, .inr (1, [.long f33, .ref f34, .ref f35, .int f36, .int 0]))).set i39 (p9, .inr (1, [.long p0, .ref f41, .ref f42, .int f43, .int f44]))))))

set_option maxHeartbeats 4000000 in
set_option maxRecDepth 100000 in
theorem k_X0_init {l : Launch} {D : va_G} {cy : Nat → ClassId} {T0 tB tE : Nat} {a : Nat → Nat} {rw : Nat → Option Nat} (hrw : ∀ i, i < 6 → rw i = some (a (12 + 2 * i))) {mc ms : Nat} (S : KS) (p9 : Nat) (p0 : Int64) (post : KS → Prop) (h : w_X0_init cy tE mc ms S p9 p0 post) : Ct l D cy T0 tB tE yX0_init cX0_init 3 none 4 80 mc ms (kw cy a rw S) [.ref p9, .long p0] (QV D (U := KS) post (kw cy a rw)) := by
  refine Ct.ofZ RX0 "<init>" [(0, .ref p9), (1, .long p0)] rfl rfl rfl rfl (Nat.le_of_ble_eq_true rfl) ?_
  intro p e R s m args below meth c A b
  unfold w_X0_init at h
  refine z_aload_n b dX0_init_0 rfl rfl ?_
  refine z_objInit b wm_X0_1 wi_objInit wc_objInit dX0_init_1 (by decide) (Nat.le_of_ble_eq_true rfl) ?_
  refine z_aload_n b dX0_init_4 rfl rfl ?_
  obtain ⟨g1, h⟩ := h
  refine z_new (fs := [.int 0, .null, .int 0]) (N := 3) (ci := 0) tyJx4a65c b in_Jx4a65c tyJx4a65c_ok wk_X0_7 wn_Jx4a65c w0_Jx4a65c rfl tyJx4a65c_df g1 dX0_init_5 (fun q2 => ?_)
  replace h := h q2
  refine z_wseq (kw_new cy a rw S (q2, .inr (0, [.int 0, .null, .int 0]))) ?_
  refine z_dup b dX0_init_8 rfl ?_
  obtain ⟨g3, h⟩ := h
  refine z_callv b (z_runI (As := []) (st := [.ref q2, .ref p9]) b (k_Jx4a65c_init_da8c8 hrw (ksL S (S.2.2.2 ++ [(q2, .inr (0, [.int 0, .null, .int 0]))])) q2 _ h) cf_Jx4a65c_init_da8c8 wm_X0_9 wi_Jx4a65c_init_da8c8 rfl dX0_init_9 rfl (Nat.le_of_ble_eq_true rfl) ⟨by decide, by decide, g3.1, g3.2⟩) (fun S5 h => ?_)
  obtain ⟨i6, f7, f8, f9, f10, f11, g12, h⟩ := h
  refine z_putF (q0 := 47 + i6) (k9 := 1) tyX0 b (kw_dyn cy a rw S5 g12) rfl in_X0 tyX0_ok nmX0 (by decide) wf_X0_10 rfl rfl rfl rfl rfl rfl (Nat.le_of_ble_eq_true rfl) dX0_init_12 (kw_dset cy a rw S5 i6 (p9, .inr (1, [.long f7, .ref q2, .ref f9, .int f10, .int f11]))) ?_
  refine z_aload_n b dX0_init_15 rfl rfl ?_
  obtain ⟨g13, h⟩ := h
  refine z_new (fs := [.int 0, .null, .int 0]) (N := 3) (ci := 0) tyJx4a65c b in_Jx4a65c tyJx4a65c_ok wk_X0_7 wn_Jx4a65c w0_Jx4a65c rfl tyJx4a65c_df g13 dX0_init_16 (fun q14 => ?_)
  replace h := h q14
  refine z_wseq (kw_new cy a rw (ksL S5 (S5.2.2.2.set i6 (p9, .inr (1, [.long f7, .ref q2, .ref f9, .int f10, .int f11])))) (q14, .inr (0, [.int 0, .null, .int 0]))) ?_
  refine z_dup b dX0_init_19 rfl ?_
  obtain ⟨g15, h⟩ := h
  refine z_callv b (z_runI (As := []) (st := [.ref q14, .ref p9]) b (k_Jx4a65c_init_da8c8 hrw (ksL (ksL S5 (S5.2.2.2.set i6 (p9, .inr (1, [.long f7, .ref q2, .ref f9, .int f10, .int f11])))) ((S5.2.2.2.set i6 (p9, .inr (1, [.long f7, .ref q2, .ref f9, .int f10, .int f11]))) ++ [(q14, .inr (0, [.int 0, .null, .int 0]))])) q14 _ h) cf_Jx4a65c_init_da8c8 wm_X0_9 wi_Jx4a65c_init_da8c8 rfl dX0_init_20 rfl (Nat.le_of_ble_eq_true rfl) ⟨by decide, by decide, g15.1, g15.2⟩) (fun S17 h => ?_)
  obtain ⟨i18, f19, f20, f21, f22, f23, g24, h⟩ := h
  refine z_putF (q0 := 47 + i18) (k9 := 2) tyX0 b (kw_dyn cy a rw S17 g24) rfl in_X0 tyX0_ok nmX0 (by decide) wf_X0_16 rfl rfl rfl rfl rfl rfl (Nat.le_of_ble_eq_true rfl) dX0_init_23 (kw_dset cy a rw S17 i18 (p9, .inr (1, [.long f19, .ref f20, .ref q14, .int f22, .int f23]))) ?_
  refine z_aload_n b dX0_init_26 rfl rfl ?_
  refine z_iconst (v := 0) b dX0_init_27 (by decide) ?_
  obtain ⟨i25, f26, f27, f28, f29, f30, g31, h⟩ := h
  refine z_put (q0 := 47 + i25) (k9 := 3) tyX0 b (kw_dyn cy a rw (ksL S17 (S17.2.2.2.set i18 (p9, .inr (1, [.long f19, .ref f20, .ref q14, .int f22, .int f23])))) g31) rfl in_X0 tyX0_ok nmX0 (by decide) wf_X0_19 rfl rfl rfl rfl (Nat.le_of_ble_eq_true rfl) dX0_init_28 (kw_dset cy a rw (ksL S17 (S17.2.2.2.set i18 (p9, .inr (1, [.long f19, .ref f20, .ref q14, .int f22, .int f23])))) i25 (p9, .inr (1, [.long f26, .ref f27, .ref f28, .int 0, .int f30]))) ?_
  refine z_aload_n b dX0_init_31 rfl rfl ?_
  refine z_iconst (v := 0) b dX0_init_32 (by decide) ?_
  obtain ⟨i32, f33, f34, f35, f36, f37, g38, h⟩ := h
  refine z_put (q0 := 47 + i32) (k9 := 4) tyX0 b (kw_dyn cy a rw (ksL (ksL S17 (S17.2.2.2.set i18 (p9, .inr (1, [.long f19, .ref f20, .ref q14, .int f22, .int f23])))) ((S17.2.2.2.set i18 (p9, .inr (1, [.long f19, .ref f20, .ref q14, .int f22, .int f23]))).set i25 (p9, .inr (1, [.long f26, .ref f27, .ref f28, .int 0, .int f30])))) g38) rfl in_X0 tyX0_ok nmX0 (by decide) wf_X0_23 rfl rfl rfl rfl (Nat.le_of_ble_eq_true rfl) dX0_init_33 (kw_dset cy a rw (ksL (ksL S17 (S17.2.2.2.set i18 (p9, .inr (1, [.long f19, .ref f20, .ref q14, .int f22, .int f23])))) ((S17.2.2.2.set i18 (p9, .inr (1, [.long f19, .ref f20, .ref q14, .int f22, .int f23]))).set i25 (p9, .inr (1, [.long f26, .ref f27, .ref f28, .int 0, .int f30])))) i32 (p9, .inr (1, [.long f33, .ref f34, .ref f35, .int f36, .int 0]))) ?_
  refine z_aload_n b dX0_init_36 rfl rfl ?_
  refine z_lload_n b dX0_init_37 rfl rfl ?_
  obtain ⟨i39, f40, f41, f42, f43, f44, g45, h⟩ := h
  refine z_putF (q0 := 47 + i39) (k9 := 0) tyX0 b (kw_dyn cy a rw (ksL (ksL (ksL S17 (S17.2.2.2.set i18 (p9, .inr (1, [.long f19, .ref f20, .ref q14, .int f22, .int f23])))) ((S17.2.2.2.set i18 (p9, .inr (1, [.long f19, .ref f20, .ref q14, .int f22, .int f23]))).set i25 (p9, .inr (1, [.long f26, .ref f27, .ref f28, .int 0, .int f30])))) (((S17.2.2.2.set i18 (p9, .inr (1, [.long f19, .ref f20, .ref q14, .int f22, .int f23]))).set i25 (p9, .inr (1, [.long f26, .ref f27, .ref f28, .int 0, .int f30]))).set i32 (p9, .inr (1, [.long f33, .ref f34, .ref f35, .int f36, .int 0])))) g45) rfl in_X0 tyX0_ok nmX0 (by decide) wf_X0_26 rfl rfl rfl rfl rfl rfl (Nat.le_of_ble_eq_true rfl) dX0_init_38 (kw_dset cy a rw (ksL (ksL (ksL S17 (S17.2.2.2.set i18 (p9, .inr (1, [.long f19, .ref f20, .ref q14, .int f22, .int f23])))) ((S17.2.2.2.set i18 (p9, .inr (1, [.long f19, .ref f20, .ref q14, .int f22, .int f23]))).set i25 (p9, .inr (1, [.long f26, .ref f27, .ref f28, .int 0, .int f30])))) (((S17.2.2.2.set i18 (p9, .inr (1, [.long f19, .ref f20, .ref q14, .int f22, .int f23]))).set i25 (p9, .inr (1, [.long f26, .ref f27, .ref f28, .int 0, .int f30]))).set i32 (p9, .inr (1, [.long f33, .ref f34, .ref f35, .int f36, .int 0])))) i39 (p9, .inr (1, [.long p0, .ref f41, .ref f42, .int f43, .int f44]))) ?_
  obtain ⟨g46, h⟩ := h
  exact z_vret (u := (ksL (ksL (ksL (ksL S17 (S17.2.2.2.set i18 (p9, .inr (1, [.long f19, .ref f20, .ref q14, .int f22, .int f23])))) ((S17.2.2.2.set i18 (p9, .inr (1, [.long f19, .ref f20, .ref q14, .int f22, .int f23]))).set i25 (p9, .inr (1, [.long f26, .ref f27, .ref f28, .int 0, .int f30])))) (((S17.2.2.2.set i18 (p9, .inr (1, [.long f19, .ref f20, .ref q14, .int f22, .int f23]))).set i25 (p9, .inr (1, [.long f26, .ref f27, .ref f28, .int 0, .int f30]))).set i32 (p9, .inr (1, [.long f33, .ref f34, .ref f35, .int f36, .int 0])))) ((((S17.2.2.2.set i18 (p9, .inr (1, [.long f19, .ref f20, .ref q14, .int f22, .int f23]))).set i25 (p9, .inr (1, [.long f26, .ref f27, .ref f28, .int 0, .int f30]))).set i32 (p9, .inr (1, [.long f33, .ref f34, .ref f35, .int f36, .int 0]))).set i39 (p9, .inr (1, [.long p0, .ref f41, .ref f42, .int f43, .int f44]))))) b rfl dX0_init_41 h rfl g46.1 g46.2

def w_X5_isNamed_F2 (cy : Nat → ClassId) (tE : Nat) (post : Int32 → KS → Prop) (k40 : KS → Prop) (k2 : KS → Int64 → Int32 → Prop) (S : KS) (x1 : Int64) (x3 : Int32) : Prop :=
  ∃ (i1 : Nat) (f2 : List Value), S.2.2.2[i1]? = some ((S.2.1 0), .inr (0, f2)) ∧ w_Jx4a65c_size_8abf5 cy tE S (S.2.1 0) (fun r4 S5 => ((r4.toInt ≤ x3.toInt → k40 S5) ∧ (x3.toInt < r4.toInt → ∃ (i6 : Nat) (f7 : List Value), S5.2.2.2[i6]? = some ((S5.2.1 0), .inr (0, f7)) ∧ w_Jx4a65c_get_915e3 cy tE S5 (S5.2.1 0) x3 (fun r9 S10 => ∃ q11 : Nat, r9 = some q11 ∧ ∃ (i13 : Nat) (f14 : List Value), S10.2.2.2[i13]? = some (q11, .inr (1, f14)) ∧ ∃ (i16 : Nat) (f17 : Int64) (f18 : Nat) (f19 : Nat) (f20 : Int32) (f21 : Int32), S10.2.2.2[i16]? = some (q11, .inr (1, [.long f17, .ref f18, .ref f19, .int f20, .int f21])) ∧ (((lg_cmp f17 x1).toInt ≠ 0 → k2 S10 x1 (x3 + 1)) ∧ ((lg_cmp f17 x1).toInt = 0 → post 1 S10))))))

set_option maxHeartbeats 4000000 in
set_option maxRecDepth 100000 in
theorem z_X5_isNamed_F2 {p : Program} {l : Launch} {e : Env} {R : Room} {s : State} {m : MethodId} {args : Array Value} {below : List Frame} {meth : Method} {c : Code} {D : va_G} {cy : Nat → ClassId} {T0 tB tE : Nat} {A : Nat → Prop} {a : Nat → Nat} {rw : Nat → Option Nat} (hrw : ∀ i, i < 6 → rw i = some (a (12 + 2 * i))) {post : Int32 → KS → Prop} {k40 : KS → Prop} {k2 : KS → Int64 → Int32 → Prop} (b : Bz p R s m args meth c D cy T0 tB tE A 4 cX5_isNamed RX5 (some .boolean) "isNamed" 3 64 0 0) (hk40 : ∀ (S : KS), k40 S → Z p l e R s m args below meth c D A 4 (MQ below (QI D (U := KS) post (kw cy a rw) A) args s 0 0 A) 0 0 (kw cy a rw S) [] 40 []) (hk2 : ∀ (S : KS) (x1 : Int64) (x3 : Int32), k2 S x1 x3 → Z p l e R s m args below meth c D A 4 (MQ below (QI D (U := KS) post (kw cy a rw) A) args s 0 0 A) 0 0 (kw cy a rw S) [(0, .ref (a 26)), (1, .long x1), (3, .int x3)] 2 []) (S : KS) (x1 : Int64) (x3 : Int32) (h : w_X5_isNamed_F2 cy tE post k40 k2 S x1 x3) : Z p l e R s m args below meth c D A 4 (MQ below (QI D (U := KS) post (kw cy a rw) A) args s 0 0 A) 0 0 (kw cy a rw S) [(0, .ref (a 26)), (1, .long x1), (3, .int x3)] 2 [] := by
  unfold w_X5_isNamed_F2 at h
  refine z_iload_n b dX5_isNamed_2 rfl rfl ?_
  refine z_aload_n b dX5_isNamed_3 rfl rfl ?_
  refine z_get (q0 := 26) (k9 := 6) (v := .ref (S.2.1 0)) b (kw_26 cy a rw S) rfl in_X5 (by decide) wf_X5_39 rfl dX5_isNamed_4 ?_
  obtain ⟨i1, f2, g3, h⟩ := h
  refine z_calli b (z_runV (q0 := 47 + i1) (As := []) (st := [.int x3]) b (k_Jx4a65c_size_8abf5 hrw S (S.2.1 0) _ h) cf_Jx4a65c_size_8abf5 (kw_dyn cy a rw S g3) rfl wm_X5_85 wi_Jx4a65c_size_8abf5 ws_Jx4a65c_size_8abf5 dX5_isNamed_7 rfl (Nat.le_of_ble_eq_true rfl) ⟨by decide, by decide, Nat.le_of_ble_eq_true rfl, Nat.le_of_ble_eq_true rfl⟩) (fun r4 S5 h => ?_)
  refine y_icmp_ge (tgt := 40) (xl := x3.toInt) (yl := r4.toInt) b rfl rfl dX5_isNamed_10 (by decide) (fun c1 => ?_) (fun c1 => ?_)
  · replace h := h.1 c1
    refine z_lv0 (lv' := []) [] rfl ?_
    exact hk40 _ h
  · replace h := h.2 c1
    refine z_aload_n b dX5_isNamed_13 rfl rfl ?_
    refine z_get (q0 := 26) (k9 := 6) (v := .ref (S5.2.1 0)) b (kw_26 cy a rw S5) rfl in_X5 (by decide) wf_X5_39 rfl dX5_isNamed_14 ?_
    refine z_iload_n b dX5_isNamed_17 rfl rfl ?_
    obtain ⟨i6, f7, g8, h⟩ := h
    refine z_callq b (z_runV (q0 := 47 + i6) (As := [.int x3]) (st := []) b (k_Jx4a65c_get_915e3 hrw S5 (S5.2.1 0) x3 _ h) cf_Jx4a65c_get_915e3 (kw_dyn cy a rw S5 g8) rfl wm_X5_129 wi_Jx4a65c_get_915e3 ws_Jx4a65c_get_915e3 dX5_isNamed_18 rfl (Nat.le_of_ble_eq_true rfl) ⟨by decide, by decide, Nat.le_of_ble_eq_true rfl, Nat.le_of_ble_eq_true rfl⟩) (fun r9 S10 h => ?_)
    obtain ⟨q11, g12, h⟩ := h
    subst g12
    obtain ⟨i13, f14, g15, h⟩ := h
    refine z_cast (q0 := 47 + i13) (ci := 1) b wk_X5_88 (kw_dyn cy a rw S10 g15) rfl dX5_isNamed_21 ?_
    obtain ⟨i16, f17, f18, f19, f20, f21, g22, h⟩ := h
    refine z_get (q0 := 47 + i16) (k9 := 0) (v := .long f17) b (kw_dyn cy a rw S10 g22) rfl in_X0 (by decide) wf_X5_97 rfl dX5_isNamed_24 ?_
    refine z_lload_n b dX5_isNamed_27 rfl rfl ?_
    refine z_lcmp b dX5_isNamed_28 rfl ?_
    refine y_if_ne (tgt := 34) (xl := (lg_cmp f17 x1).toInt) b rfl dX5_isNamed_29 (by decide) (fun c1 => ?_) (fun c1 => ?_)
    · replace h := h.1 c1
      refine z_iinc (k9 := 2) (v := (x3 + 1)) (lv' := [(3, .int (x3 + 1)), (0, .ref (a 26)), (1, .long x1)]) b dX5_isNamed_34 rfl rfl (by decide) rfl ?_
      refine z_goto (tgt := 2) b dX5_isNamed_37 (by decide) ?_
      refine z_lv0 (lv' := [(0, .ref (a 26)), (1, .long x1), (3, .int (x3 + 1))]) [1, 2, 0] rfl ?_
      exact hk2 _ _ _ h
    · replace h := h.2 c1
      refine z_iconst (v := 1) b dX5_isNamed_32 (by decide) ?_
      exact z_zret (u := S10) b rfl (by decide) dX5_isNamed_33 h rfl (by decide) (by decide)

set_option maxHeartbeats 4000000 in
set_option maxRecDepth 100000 in
theorem zl_X5_isNamed_L2 {p : Program} {l : Launch} {e : Env} {R : Room} {s : State} {m : MethodId} {args : Array Value} {below : List Frame} {meth : Method} {c : Code} {D : va_G} {cy : Nat → ClassId} {T0 tB tE : Nat} {A : Nat → Prop} {a : Nat → Nat} {rw : Nat → Option Nat} (hrw : ∀ i, i < 6 → rw i = some (a (12 + 2 * i))) {post : Int32 → KS → Prop} {k40 : KS → Prop} (b : Bz p R s m args meth c D cy T0 tB tE A 4 cX5_isNamed RX5 (some .boolean) "isNamed" 3 64 0 0) (hk40 : ∀ (S : KS), k40 S → Z p l e R s m args below meth c D A 4 (MQ below (QI D (U := KS) post (kw cy a rw) A) args s 0 0 A) 0 0 (kw cy a rw S) [] 40 []) : ∀ (n : Nat) (S : KS) (x1 : Int64) (x3 : Int32), lpn (w_X5_isNamed_F2 cy tE post k40) (fun _ _ _ => False) n S x1 x3 → Z p l e R s m args below meth c D A 4 (MQ below (QI D (U := KS) post (kw cy a rw) A) args s 0 0 A) 0 0 (kw cy a rw S) [(0, .ref (a 26)), (1, .long x1), (3, .int x3)] 2 [] := by
  intro n
  induction n with
  | zero => intro _ _ _ h; exact h.elim
  | succ n ih => intro S x1 x3 h; exact z_X5_isNamed_F2 hrw b hk40 ih S x1 x3 h

def w_X5_isNamed_B40 (cy : Nat → ClassId) (tE : Nat) (post : Int32 → KS → Prop) (S : KS)  : Prop :=
  post 0 S

set_option maxHeartbeats 4000000 in
set_option maxRecDepth 100000 in
theorem z_X5_isNamed_B40 {p : Program} {l : Launch} {e : Env} {R : Room} {s : State} {m : MethodId} {args : Array Value} {below : List Frame} {meth : Method} {c : Code} {D : va_G} {cy : Nat → ClassId} {T0 tB tE : Nat} {A : Nat → Prop} {a : Nat → Nat} {rw : Nat → Option Nat} (hrw : ∀ i, i < 6 → rw i = some (a (12 + 2 * i))) {post : Int32 → KS → Prop} (b : Bz p R s m args meth c D cy T0 tB tE A 4 cX5_isNamed RX5 (some .boolean) "isNamed" 3 64 0 0) (S : KS)  (h : w_X5_isNamed_B40 cy tE post S ) : Z p l e R s m args below meth c D A 4 (MQ below (QI D (U := KS) post (kw cy a rw) A) args s 0 0 A) 0 0 (kw cy a rw S) [] 40 [] := by
  unfold w_X5_isNamed_B40 at h
  refine z_iconst (v := 0) b dX5_isNamed_40 (by decide) ?_
  exact z_zret (u := S) b rfl (by decide) dX5_isNamed_41 h rfl (by decide) (by decide)

def w_X5_isNamed (cy : Nat → ClassId) (tE : Nat) (S : KS) (p0 : Int64) (post : Int32 → KS → Prop) : Prop :=
  ∃ n, lpn (w_X5_isNamed_F2 cy tE post (w_X5_isNamed_B40 cy tE post)) (fun _ _ _ => False) n S p0 0

set_option maxHeartbeats 4000000 in
set_option maxRecDepth 100000 in
theorem k_X5_isNamed {l : Launch} {D : va_G} {cy : Nat → ClassId} {T0 tB tE : Nat} {a : Nat → Nat} {rw : Nat → Option Nat} (hrw : ∀ i, i < 6 → rw i = some (a (12 + 2 * i))) (S : KS) (p0 : Int64) (post : Int32 → KS → Prop) (h : w_X5_isNamed cy tE S p0 post) : Ct l D cy T0 tB tE yX5_isNamed cX5_isNamed 4 (some .boolean) 3 64 0 0 (kw cy a rw S) [.ref (a 26), .long p0] (QI D (U := KS) post (kw cy a rw)) := by
  refine Ct.ofZ RX5 "isNamed" [(0, .ref (a 26)), (1, .long p0)] rfl rfl rfl rfl (Nat.le_of_ble_eq_true rfl) ?_
  intro p e R s m args below meth c A b
  unfold w_X5_isNamed at h
  refine z_iconst (v := 0) b dX5_isNamed_0 (by decide) ?_
  refine z_istore_n (lv' := [(3, .int 0), (0, .ref (a 26)), (1, .long p0)]) b dX5_isNamed_1 rfl (by decide) rfl ?_
  refine z_lv0 (lv' := [(0, .ref (a 26)), (1, .long p0), (3, .int 0)]) [1, 2, 0] rfl ?_
  obtain ⟨n, h⟩ := h
  exact zl_X5_isNamed_L2 hrw b (fun S h => z_X5_isNamed_B40 hrw b _ h) n _ _ _ h

def w_X8_listCodes_B111 (cy : Nat → ClassId) (tE : Nat) (post : KS → Prop) (k7 : KS → Int32 → Prop) (k117 : KS → Prop) (S : KS) (x1 : Int32) : Prop :=
  k7 S (x1 + 1)

set_option maxHeartbeats 4000000 in
set_option maxRecDepth 100000 in
theorem z_X8_listCodes_B111 {p : Program} {l : Launch} {e : Env} {R : Room} {s : State} {m : MethodId} {args : Array Value} {below : List Frame} {meth : Method} {c : Code} {D : va_G} {cy : Nat → ClassId} {T0 tB tE : Nat} {A : Nat → Prop} {a : Nat → Nat} {rw : Nat → Option Nat} (hrw : ∀ i, i < 6 → rw i = some (a (12 + 2 * i))) {post : KS → Prop} {k7 : KS → Int32 → Prop} {k117 : KS → Prop} (b : Bz p R s m args meth c D cy T0 tB tE A 4 cX8_listCodes RX8 none "listCodes" 2 48 0 0) (hk7 : ∀ (S : KS) (x1 : Int32), k7 S x1 → Z p l e R s m args below meth c D A 4 (MQ below (QV D (U := KS) post (kw cy a rw) A) args s 0 0 A) 0 0 (kw cy a rw S) [(0, .ref (a 38)), (1, .int x1)] 7 []) (hk117 : ∀ (S : KS), k117 S → Z p l e R s m args below meth c D A 4 (MQ below (QV D (U := KS) post (kw cy a rw) A) args s 0 0 A) 0 0 (kw cy a rw S) [] 117 []) (S : KS) (x1 : Int32) (h : w_X8_listCodes_B111 cy tE post k7 k117 S x1) : Z p l e R s m args below meth c D A 4 (MQ below (QV D (U := KS) post (kw cy a rw) A) args s 0 0 A) 0 0 (kw cy a rw S) [(0, .ref (a 38)), (1, .int x1)] 111 [] := by
  unfold w_X8_listCodes_B111 at h
  refine z_iinc (k9 := 1) (v := (x1 + 1)) (lv' := [(1, .int (x1 + 1)), (0, .ref (a 38))]) b dX8_listCodes_111 rfl rfl (by decide) rfl ?_
  refine z_goto (tgt := 7) b dX8_listCodes_114 (by decide) ?_
  refine z_lv0 (lv' := [(0, .ref (a 38)), (1, .int (x1 + 1))]) [1, 0] rfl ?_
  exact hk7 _ _ h

def w_X8_listCodes_B56 (cy : Nat → ClassId) (tE : Nat) (post : KS → Prop) (k7 : KS → Int32 → Prop) (k117 : KS → Prop) (S : KS) (x1 : Int32) (y0 : Int32) : Prop :=
  ((y0.toInt = 0 → w_X8_listCodes_B111 cy tE post k7 k117 S x1) ∧ (y0.toInt ≠ 0 → ((216 ≤ (fi S.1 26).toInt → w_X8_listCodes_B111 cy tE post k7 k117 S x1) ∧ ((fi S.1 26).toInt < 216 → w_X4_actOf cy tE S x1 (fi S.1 27) (fun r5 S6 => ((r5 = none → w_X8_listCodes_B111 cy tE post k7 k117 S6 x1) ∧ (∀ q7 : Nat, r5 = some q7 → (0 ≤ (fi S6.1 26).toInt ∧ (fi S6.1 26).toInt < 216) ∧ w_X8_listCodes_B111 cy tE post k7 k117 (ksi (ksu S6 21 ((fi S6.1 26).toNatClampNeg) x1) 26 ((fi S6.1 26) + 1)) x1)))))))

set_option maxHeartbeats 4000000 in
set_option maxRecDepth 100000 in
theorem z_X8_listCodes_B56 {p : Program} {l : Launch} {e : Env} {R : Room} {s : State} {m : MethodId} {args : Array Value} {below : List Frame} {meth : Method} {c : Code} {D : va_G} {cy : Nat → ClassId} {T0 tB tE : Nat} {A : Nat → Prop} {a : Nat → Nat} {rw : Nat → Option Nat} (hrw : ∀ i, i < 6 → rw i = some (a (12 + 2 * i))) {post : KS → Prop} {k7 : KS → Int32 → Prop} {k117 : KS → Prop} (b : Bz p R s m args meth c D cy T0 tB tE A 4 cX8_listCodes RX8 none "listCodes" 2 48 0 0) (hk7 : ∀ (S : KS) (x1 : Int32), k7 S x1 → Z p l e R s m args below meth c D A 4 (MQ below (QV D (U := KS) post (kw cy a rw) A) args s 0 0 A) 0 0 (kw cy a rw S) [(0, .ref (a 38)), (1, .int x1)] 7 []) (hk117 : ∀ (S : KS), k117 S → Z p l e R s m args below meth c D A 4 (MQ below (QV D (U := KS) post (kw cy a rw) A) args s 0 0 A) 0 0 (kw cy a rw S) [] 117 []) (S : KS) (x1 : Int32) (y0 : Int32) (h : w_X8_listCodes_B56 cy tE post k7 k117 S x1 y0) : Z p l e R s m args below meth c D A 4 (MQ below (QV D (U := KS) post (kw cy a rw) A) args s 0 0 A) 0 0 (kw cy a rw S) [(0, .ref (a 38)), (1, .int x1)] 56 [.int y0] := by
  unfold w_X8_listCodes_B56 at h
  refine z_istore_n (lv' := [(3, .int y0), (0, .ref (a 38)), (1, .int x1)]) b dX8_listCodes_56 rfl (by decide) rfl ?_
  refine z_iload_n b dX8_listCodes_57 rfl rfl ?_
  refine y_if_eq (tgt := 111) (xl := y0.toInt) b rfl dX8_listCodes_58 (by decide) (fun c1 => ?_) (fun c1 => ?_)
  · replace h := h.1 c1
    refine z_lv0 (lv' := [(0, .ref (a 38)), (1, .int x1)]) [1, 2] rfl ?_
    exact z_X8_listCodes_B111 hrw b hk7 hk117 _ _ h
  · replace h := h.2 c1
    refine z_aload_n b dX8_listCodes_61 rfl rfl ?_
    refine z_get (q0 := 38) (k9 := 10) (v := .int (fi S.1 26)) b (kw_38 cy a rw S) rfl in_X8 (by decide) wf_X8_41 rfl dX8_listCodes_62 ?_
    refine z_aload_n b dX8_listCodes_65 rfl rfl ?_
    refine z_get (q0 := 38) (k9 := 9) (v := .ref (a 45)) b (kw_38 cy a rw S) rfl in_X8 (by decide) wf_X8_38 rfl dX8_listCodes_66 ?_
    refine z_alen (q0 := 45) (t0 := 0) (v := 216) b (kw_45 cy a rw S) rfl rfl dX8_listCodes_69 ?_
    refine y_icmp_ge (tgt := 111) (xl := (fi S.1 26).toInt) (yl := 216) b rfl (by decide) dX8_listCodes_70 (by decide) (fun c1 => ?_) (fun c1 => ?_)
    · replace h := h.1 c1
      refine z_lv0 (lv' := [(0, .ref (a 38)), (1, .int x1)]) [1, 2] rfl ?_
      exact z_X8_listCodes_B111 hrw b hk7 hk117 _ _ h
    · replace h := h.2 c1
      refine z_aload_n b dX8_listCodes_73 rfl rfl ?_
      refine z_get (q0 := 38) (k9 := 0) (v := .ref (a 35)) b (kw_38 cy a rw S) rfl in_X8 (by decide) wf_X8_70 rfl dX8_listCodes_74 ?_
      refine z_get (q0 := 35) (k9 := 0) (v := .ref (a 33)) b (kw_35 cy a rw S) rfl in_X2 (by decide) wf_X8_101 rfl dX8_listCodes_77 ?_
      refine z_iload_n b dX8_listCodes_80 rfl rfl ?_
      refine z_aload_n b dX8_listCodes_81 rfl rfl ?_
      refine z_get (q0 := 38) (k9 := 11) (v := .int (fi S.1 27)) b (kw_38 cy a rw S) rfl in_X8 (by decide) wf_X8_45 rfl dX8_listCodes_82 ?_
      refine z_callq b (z_runV (q0 := 33) (As := [.int x1, .int (fi S.1 27)]) (st := []) b (k_X4_actOf hrw S x1 (fi S.1 27) _ h) cf_X4_actOf (kw_33 cy a rw S) rfl wm_X8_107 wi_X4_actOf ws_X4_actOf dX8_listCodes_85 rfl (Nat.le_of_ble_eq_true rfl) ⟨by decide, by decide, Nat.le_of_ble_eq_true rfl, Nat.le_of_ble_eq_true rfl⟩) (fun r5 S6 h => ?_)
      cases r5 with
      | none =>
        replace h := h.1 rfl
        refine z_ifnullN (tgt := 111) b dX8_listCodes_88 (by decide) ?_
        refine z_lv0 (lv' := [(0, .ref (a 38)), (1, .int x1)]) [1, 2] rfl ?_
        exact z_X8_listCodes_B111 hrw b hk7 hk117 _ _ h
      | some q7 =>
        replace h := h.2 q7 rfl
        refine z_ifnull b dX8_listCodes_88 ?_
        refine z_aload_n b dX8_listCodes_91 rfl rfl ?_
        refine z_get (q0 := 38) (k9 := 9) (v := .ref (a 45)) b (kw_38 cy a rw S6) rfl in_X8 (by decide) wf_X8_38 rfl dX8_listCodes_92 ?_
        refine z_aload_n b dX8_listCodes_95 rfl rfl ?_
        refine z_get (q0 := 38) (k9 := 10) (v := .int (fi S6.1 26)) b (kw_38 cy a rw S6) rfl in_X8 (by decide) wf_X8_41 rfl dX8_listCodes_96 ?_
        refine z_iload_n b dX8_listCodes_99 rfl rfl ?_
        obtain ⟨g8, h⟩ := h
        refine y_iast (q0 := 45) (j := (fi S6.1 26).toNatClampNeg) b (kw_45 cy a rw S6) (zx_r g8.1 g8.2) dX8_listCodes_100 (kwa_45 cy a rw S6 ((fi S6.1 26).toNatClampNeg) x1) ?_
        refine z_aload_n b dX8_listCodes_101 rfl rfl ?_
        refine z_dup b dX8_listCodes_102 rfl ?_
        refine z_get (q0 := 38) (k9 := 10) (v := .int (fi S6.1 26)) b (kw_38 cy a rw (ksu S6 21 ((fi S6.1 26).toNatClampNeg) x1)) rfl in_X8 (by decide) wf_X8_41 rfl dX8_listCodes_103 ?_
        refine z_iconst (v := 1) b dX8_listCodes_106 (by decide) ?_
        refine z_iadd b dX8_listCodes_107 rfl ?_
        refine z_put (q0 := 38) (k9 := 10) tyX8 b (kw_38 cy a rw (ksu S6 21 ((fi S6.1 26).toNatClampNeg) x1)) rfl in_X8 tyX8_ok nmX8 (by decide) wf_X8_41 rfl rfl rfl rfl (Nat.le_of_ble_eq_true rfl) dX8_listCodes_108 (kwp_38_10 cy a rw (ksu S6 21 ((fi S6.1 26).toNatClampNeg) x1) ((fi S6.1 26) + 1)) ?_
        refine z_lv0 (lv' := [(0, .ref (a 38)), (1, .int x1)]) [1, 2] rfl ?_
        exact z_X8_listCodes_B111 hrw b hk7 hk117 _ _ h

def w_X8_listCodes_B55 (cy : Nat → ClassId) (tE : Nat) (post : KS → Prop) (k7 : KS → Int32 → Prop) (k117 : KS → Prop) (S : KS) (x1 : Int32) : Prop :=
  w_X8_listCodes_B56 cy tE post k7 k117 S x1 0

set_option maxHeartbeats 4000000 in
set_option maxRecDepth 100000 in
theorem z_X8_listCodes_B55 {p : Program} {l : Launch} {e : Env} {R : Room} {s : State} {m : MethodId} {args : Array Value} {below : List Frame} {meth : Method} {c : Code} {D : va_G} {cy : Nat → ClassId} {T0 tB tE : Nat} {A : Nat → Prop} {a : Nat → Nat} {rw : Nat → Option Nat} (hrw : ∀ i, i < 6 → rw i = some (a (12 + 2 * i))) {post : KS → Prop} {k7 : KS → Int32 → Prop} {k117 : KS → Prop} (b : Bz p R s m args meth c D cy T0 tB tE A 4 cX8_listCodes RX8 none "listCodes" 2 48 0 0) (hk7 : ∀ (S : KS) (x1 : Int32), k7 S x1 → Z p l e R s m args below meth c D A 4 (MQ below (QV D (U := KS) post (kw cy a rw) A) args s 0 0 A) 0 0 (kw cy a rw S) [(0, .ref (a 38)), (1, .int x1)] 7 []) (hk117 : ∀ (S : KS), k117 S → Z p l e R s m args below meth c D A 4 (MQ below (QV D (U := KS) post (kw cy a rw) A) args s 0 0 A) 0 0 (kw cy a rw S) [] 117 []) (S : KS) (x1 : Int32) (h : w_X8_listCodes_B55 cy tE post k7 k117 S x1) : Z p l e R s m args below meth c D A 4 (MQ below (QV D (U := KS) post (kw cy a rw) A) args s 0 0 A) 0 0 (kw cy a rw S) [(0, .ref (a 38)), (1, .int x1)] 55 [] := by
  unfold w_X8_listCodes_B55 at h
  refine z_iconst (v := 0) b dX8_listCodes_55 (by decide) ?_
  exact z_X8_listCodes_B56 hrw b hk7 hk117 _ _ _ h

def w_X8_listCodes_B51 (cy : Nat → ClassId) (tE : Nat) (post : KS → Prop) (k7 : KS → Int32 → Prop) (k117 : KS → Prop) (S : KS) (x1 : Int32) : Prop :=
  w_X8_listCodes_B56 cy tE post k7 k117 S x1 1

set_option maxHeartbeats 4000000 in
set_option maxRecDepth 100000 in
theorem z_X8_listCodes_B51 {p : Program} {l : Launch} {e : Env} {R : Room} {s : State} {m : MethodId} {args : Array Value} {below : List Frame} {meth : Method} {c : Code} {D : va_G} {cy : Nat → ClassId} {T0 tB tE : Nat} {A : Nat → Prop} {a : Nat → Nat} {rw : Nat → Option Nat} (hrw : ∀ i, i < 6 → rw i = some (a (12 + 2 * i))) {post : KS → Prop} {k7 : KS → Int32 → Prop} {k117 : KS → Prop} (b : Bz p R s m args meth c D cy T0 tB tE A 4 cX8_listCodes RX8 none "listCodes" 2 48 0 0) (hk7 : ∀ (S : KS) (x1 : Int32), k7 S x1 → Z p l e R s m args below meth c D A 4 (MQ below (QV D (U := KS) post (kw cy a rw) A) args s 0 0 A) 0 0 (kw cy a rw S) [(0, .ref (a 38)), (1, .int x1)] 7 []) (hk117 : ∀ (S : KS), k117 S → Z p l e R s m args below meth c D A 4 (MQ below (QV D (U := KS) post (kw cy a rw) A) args s 0 0 A) 0 0 (kw cy a rw S) [] 117 []) (S : KS) (x1 : Int32) (h : w_X8_listCodes_B51 cy tE post k7 k117 S x1) : Z p l e R s m args below meth c D A 4 (MQ below (QV D (U := KS) post (kw cy a rw) A) args s 0 0 A) 0 0 (kw cy a rw S) [(0, .ref (a 38)), (1, .int x1)] 51 [] := by
  unfold w_X8_listCodes_B51 at h
  refine z_iconst (v := 1) b dX8_listCodes_51 (by decide) ?_
  refine z_goto (tgt := 56) b dX8_listCodes_52 (by decide) ?_
  exact z_X8_listCodes_B56 hrw b hk7 hk117 _ _ _ h

def w_X8_listCodes_F7 (cy : Nat → ClassId) (tE : Nat) (post : KS → Prop) (k117 : KS → Prop) (k7 : KS → Int32 → Prop) (S : KS) (x1 : Int32) : Prop :=
  ((768 ≤ x1.toInt → k117 S) ∧ (x1.toInt < 768 → w_X11_otherOf cy tE S x1 (fun r1 S2 => w_X11_doerOf cy tE S2 x1 (fun r3 S4 => (((((fi S2.1 29) >>> (r3 &&& 31)) &&& 1).toInt ≠ 1 → w_X8_listCodes_B55 cy tE post k7 k117 S4 x1) ∧ ((((fi S2.1 29) >>> (r3 &&& 31)) &&& 1).toInt = 1 → ((r1.toInt = 3 → w_X8_listCodes_B51 cy tE post k7 k117 S4 x1) ∧ (r1.toInt ≠ 3 → (((((fi S4.1 29) >>> (r1 &&& 31)) &&& 1).toInt ≠ 1 → w_X8_listCodes_B55 cy tE post k7 k117 S4 x1) ∧ ((((fi S4.1 29) >>> (r1 &&& 31)) &&& 1).toInt = 1 → w_X8_listCodes_B51 cy tE post k7 k117 S4 x1))))))))))

set_option maxHeartbeats 4000000 in
set_option maxRecDepth 100000 in
theorem z_X8_listCodes_F7 {p : Program} {l : Launch} {e : Env} {R : Room} {s : State} {m : MethodId} {args : Array Value} {below : List Frame} {meth : Method} {c : Code} {D : va_G} {cy : Nat → ClassId} {T0 tB tE : Nat} {A : Nat → Prop} {a : Nat → Nat} {rw : Nat → Option Nat} (hrw : ∀ i, i < 6 → rw i = some (a (12 + 2 * i))) {post : KS → Prop} {k117 : KS → Prop} {k7 : KS → Int32 → Prop} (b : Bz p R s m args meth c D cy T0 tB tE A 4 cX8_listCodes RX8 none "listCodes" 2 48 0 0) (hk117 : ∀ (S : KS), k117 S → Z p l e R s m args below meth c D A 4 (MQ below (QV D (U := KS) post (kw cy a rw) A) args s 0 0 A) 0 0 (kw cy a rw S) [] 117 []) (hk7 : ∀ (S : KS) (x1 : Int32), k7 S x1 → Z p l e R s m args below meth c D A 4 (MQ below (QV D (U := KS) post (kw cy a rw) A) args s 0 0 A) 0 0 (kw cy a rw S) [(0, .ref (a 38)), (1, .int x1)] 7 []) (S : KS) (x1 : Int32) (h : w_X8_listCodes_F7 cy tE post k117 k7 S x1) : Z p l e R s m args below meth c D A 4 (MQ below (QV D (U := KS) post (kw cy a rw) A) args s 0 0 A) 0 0 (kw cy a rw S) [(0, .ref (a 38)), (1, .int x1)] 7 [] := by
  unfold w_X8_listCodes_F7 at h
  refine z_iload_n b dX8_listCodes_7 rfl rfl ?_
  refine z_sipush (v := 768) b dX8_listCodes_8 (by decide) ?_
  refine y_icmp_ge (tgt := 117) (xl := x1.toInt) (yl := 768) b rfl (by decide) dX8_listCodes_11 (by decide) (fun c1 => ?_) (fun c1 => ?_)
  · replace h := h.1 c1
    refine z_lv0 (lv' := []) [] rfl ?_
    exact hk117 _ h
  · replace h := h.2 c1
    refine z_iload_n b dX8_listCodes_14 rfl rfl ?_
    refine z_calli b (z_runSN (As := [.int x1]) (st := []) b (k_X11_otherOf hrw S x1 _ h) cf_X11_otherOf (nw_X8_94) ws_X11_otherOf dX8_listCodes_15 rfl (Nat.le_of_ble_eq_true rfl) ⟨by decide, by decide, Nat.le_of_ble_eq_true rfl, Nat.le_of_ble_eq_true rfl⟩) (fun r1 S2 h => ?_)
    refine z_istore_n (lv' := [(2, .int r1), (0, .ref (a 38)), (1, .int x1)]) b dX8_listCodes_18 rfl (by decide) rfl ?_
    refine z_aload_n b dX8_listCodes_19 rfl rfl ?_
    refine z_get (q0 := 38) (k9 := 13) (v := .int (fi S2.1 29)) b (kw_38 cy a rw S2) rfl in_X8 (by decide) wf_X8_51 rfl dX8_listCodes_20 ?_
    refine z_iload_n b dX8_listCodes_23 rfl rfl ?_
    refine z_calli b (z_runSN (As := [.int x1]) (st := [.int (fi S2.1 29)]) b (k_X11_doerOf hrw S2 x1 _ h) cf_X11_doerOf (nw_X8_98) ws_X11_doerOf dX8_listCodes_24 rfl (Nat.le_of_ble_eq_true rfl) ⟨by decide, by decide, Nat.le_of_ble_eq_true rfl, Nat.le_of_ble_eq_true rfl⟩) (fun r3 S4 h => ?_)
    refine z_ishr b dX8_listCodes_27 rfl ?_
    refine z_iconst (v := 1) b dX8_listCodes_28 (by decide) ?_
    refine z_iand b dX8_listCodes_29 rfl ?_
    refine z_iconst (v := 1) b dX8_listCodes_30 (by decide) ?_
    refine y_icmp_ne (tgt := 55) (xl := (((fi S2.1 29) >>> (r3 &&& 31)) &&& 1).toInt) (yl := 1) b rfl (by decide) dX8_listCodes_31 (by decide) (fun c1 => ?_) (fun c1 => ?_)
    · replace h := h.1 c1
      refine z_lv0 (lv' := [(0, .ref (a 38)), (1, .int x1)]) [1, 2] rfl ?_
      exact z_X8_listCodes_B55 hrw b hk7 hk117 _ _ h
    · replace h := h.2 c1
      refine z_iload_n b dX8_listCodes_34 rfl rfl ?_
      refine z_iconst (v := 3) b dX8_listCodes_35 (by decide) ?_
      refine y_icmp_eq (tgt := 51) (xl := r1.toInt) (yl := 3) b rfl (by decide) dX8_listCodes_36 (by decide) (fun c1 => ?_) (fun c1 => ?_)
      · replace h := h.1 c1
        refine z_lv0 (lv' := [(0, .ref (a 38)), (1, .int x1)]) [1, 2] rfl ?_
        exact z_X8_listCodes_B51 hrw b hk7 hk117 _ _ h
      · replace h := h.2 c1
        refine z_aload_n b dX8_listCodes_39 rfl rfl ?_
        refine z_get (q0 := 38) (k9 := 13) (v := .int (fi S4.1 29)) b (kw_38 cy a rw S4) rfl in_X8 (by decide) wf_X8_51 rfl dX8_listCodes_40 ?_
        refine z_iload_n b dX8_listCodes_43 rfl rfl ?_
        refine z_ishr b dX8_listCodes_44 rfl ?_
        refine z_iconst (v := 1) b dX8_listCodes_45 (by decide) ?_
        refine z_iand b dX8_listCodes_46 rfl ?_
        refine z_iconst (v := 1) b dX8_listCodes_47 (by decide) ?_
        refine y_icmp_ne (tgt := 55) (xl := (((fi S4.1 29) >>> (r1 &&& 31)) &&& 1).toInt) (yl := 1) b rfl (by decide) dX8_listCodes_48 (by decide) (fun c1 => ?_) (fun c1 => ?_)
        · replace h := h.1 c1
          refine z_lv0 (lv' := [(0, .ref (a 38)), (1, .int x1)]) [1, 2] rfl ?_
          exact z_X8_listCodes_B55 hrw b hk7 hk117 _ _ h
        · replace h := h.2 c1
          refine z_lv0 (lv' := [(0, .ref (a 38)), (1, .int x1)]) [1, 2] rfl ?_
          exact z_X8_listCodes_B51 hrw b hk7 hk117 _ _ h

set_option maxHeartbeats 4000000 in
set_option maxRecDepth 100000 in
theorem zl_X8_listCodes_L7 {p : Program} {l : Launch} {e : Env} {R : Room} {s : State} {m : MethodId} {args : Array Value} {below : List Frame} {meth : Method} {c : Code} {D : va_G} {cy : Nat → ClassId} {T0 tB tE : Nat} {A : Nat → Prop} {a : Nat → Nat} {rw : Nat → Option Nat} (hrw : ∀ i, i < 6 → rw i = some (a (12 + 2 * i))) {post : KS → Prop} {k117 : KS → Prop} (b : Bz p R s m args meth c D cy T0 tB tE A 4 cX8_listCodes RX8 none "listCodes" 2 48 0 0) (hk117 : ∀ (S : KS), k117 S → Z p l e R s m args below meth c D A 4 (MQ below (QV D (U := KS) post (kw cy a rw) A) args s 0 0 A) 0 0 (kw cy a rw S) [] 117 []) : ∀ (n : Nat) (S : KS) (x1 : Int32), lpn (w_X8_listCodes_F7 cy tE post k117) (fun _ _ => False) n S x1 → Z p l e R s m args below meth c D A 4 (MQ below (QV D (U := KS) post (kw cy a rw) A) args s 0 0 A) 0 0 (kw cy a rw S) [(0, .ref (a 38)), (1, .int x1)] 7 [] := by
  intro n
  induction n with
  | zero => intro _ _ h; exact h.elim
  | succ n ih => intro S x1 h; exact z_X8_listCodes_F7 hrw b hk117 ih S x1 h

def w_X8_listCodes_B117 (cy : Nat → ClassId) (tE : Nat) (post : KS → Prop) (S : KS)  : Prop :=
  post S

set_option maxHeartbeats 4000000 in
set_option maxRecDepth 100000 in
theorem z_X8_listCodes_B117 {p : Program} {l : Launch} {e : Env} {R : Room} {s : State} {m : MethodId} {args : Array Value} {below : List Frame} {meth : Method} {c : Code} {D : va_G} {cy : Nat → ClassId} {T0 tB tE : Nat} {A : Nat → Prop} {a : Nat → Nat} {rw : Nat → Option Nat} (hrw : ∀ i, i < 6 → rw i = some (a (12 + 2 * i))) {post : KS → Prop} (b : Bz p R s m args meth c D cy T0 tB tE A 4 cX8_listCodes RX8 none "listCodes" 2 48 0 0) (S : KS)  (h : w_X8_listCodes_B117 cy tE post S ) : Z p l e R s m args below meth c D A 4 (MQ below (QV D (U := KS) post (kw cy a rw) A) args s 0 0 A) 0 0 (kw cy a rw S) [] 117 [] := by
  unfold w_X8_listCodes_B117 at h
  exact z_vret (u := S) b rfl dX8_listCodes_117 h rfl (by decide) (by decide)

def w_X8_listCodes (cy : Nat → ClassId) (tE : Nat) (S : KS)  (post : KS → Prop) : Prop :=
  ∃ n, lpn (w_X8_listCodes_F7 cy tE post (w_X8_listCodes_B117 cy tE post)) (fun _ _ => False) n (ksi S 26 0) 0

set_option maxHeartbeats 4000000 in
set_option maxRecDepth 100000 in
theorem k_X8_listCodes {l : Launch} {D : va_G} {cy : Nat → ClassId} {T0 tB tE : Nat} {a : Nat → Nat} {rw : Nat → Option Nat} (hrw : ∀ i, i < 6 → rw i = some (a (12 + 2 * i))) (S : KS)  (post : KS → Prop) (h : w_X8_listCodes cy tE S  post) : Ct l D cy T0 tB tE yX8_listCodes cX8_listCodes 4 none 2 48 0 0 (kw cy a rw S) [.ref (a 38)] (QV D (U := KS) post (kw cy a rw)) := by
  refine Ct.ofZ RX8 "listCodes" [(0, .ref (a 38))] rfl rfl rfl rfl (Nat.le_of_ble_eq_true rfl) ?_
  intro p e R s m args below meth c A b
  unfold w_X8_listCodes at h
  refine z_aload_n b dX8_listCodes_0 rfl rfl ?_
  refine z_iconst (v := 0) b dX8_listCodes_1 (by decide) ?_
  refine z_put (q0 := 38) (k9 := 10) tyX8 b (kw_38 cy a rw S) rfl in_X8 tyX8_ok nmX8 (by decide) wf_X8_41 rfl rfl rfl rfl (Nat.le_of_ble_eq_true rfl) dX8_listCodes_2 (kwp_38_10 cy a rw S 0) ?_
  refine z_iconst (v := 0) b dX8_listCodes_5 (by decide) ?_
  refine z_istore_n (lv' := [(1, .int 0), (0, .ref (a 38))]) b dX8_listCodes_6 rfl (by decide) rfl ?_
  refine z_lv0 (lv' := [(0, .ref (a 38)), (1, .int 0)]) [1, 0] rfl ?_
  obtain ⟨n, h⟩ := h
  exact zl_X8_listCodes_L7 hrw b (fun S h => z_X8_listCodes_B117 hrw b _ h) n _ _ h

def w_J7_fill_53178_F5 (cy : Nat → ClassId) (tE : Nat) (post : KS → Prop) (k20 : KS → Prop) (k5 : KS → Int32 → Int32 → Int32 → Prop) (S : KS) (x1 : Int32) (x2 : Int32) (x3 : Int32) : Prop :=
  ((x3.toInt ≤ x2.toInt → k20 S) ∧ (x2.toInt < x3.toInt → (0 ≤ x2.toInt ∧ x2.toInt < 1024) ∧ k5 (ksu S 20 (x2.toNatClampNeg) x1) x1 (x2 + 1) x3))

set_option maxHeartbeats 4000000 in
set_option maxRecDepth 100000 in
theorem z_J7_fill_53178_F5 {p : Program} {l : Launch} {e : Env} {R : Room} {s : State} {m : MethodId} {args : Array Value} {below : List Frame} {meth : Method} {c : Code} {D : va_G} {cy : Nat → ClassId} {T0 tB tE : Nat} {A : Nat → Prop} {a : Nat → Nat} {rw : Nat → Option Nat} (hrw : ∀ i, i < 6 → rw i = some (a (12 + 2 * i))) {post : KS → Prop} {k20 : KS → Prop} {k5 : KS → Int32 → Int32 → Int32 → Prop} (b : Bz p R s m args meth c D cy T0 tB tE A 4 cJ7_fill_53178 RJ7 none "fill" 0 0 0 0) (hk20 : ∀ (S : KS), k20 S → Z p l e R s m args below meth c D A 4 (MQ below (QV D (U := KS) post (kw cy a rw) A) args s 0 0 A) 0 0 (kw cy a rw S) [] 20 []) (hk5 : ∀ (S : KS) (x1 : Int32) (x2 : Int32) (x3 : Int32), k5 S x1 x2 x3 → Z p l e R s m args below meth c D A 4 (MQ below (QV D (U := KS) post (kw cy a rw) A) args s 0 0 A) 0 0 (kw cy a rw S) [(0, .ref (a 43)), (1, .int x1), (2, .int x2), (3, .int x3)] 5 []) (S : KS) (x1 : Int32) (x2 : Int32) (x3 : Int32) (h : w_J7_fill_53178_F5 cy tE post k20 k5 S x1 x2 x3) : Z p l e R s m args below meth c D A 4 (MQ below (QV D (U := KS) post (kw cy a rw) A) args s 0 0 A) 0 0 (kw cy a rw S) [(0, .ref (a 43)), (1, .int x1), (2, .int x2), (3, .int x3)] 5 [] := by
  unfold w_J7_fill_53178_F5 at h
  refine z_iload_n b dJ7_fill_53178_5 rfl rfl ?_
  refine z_iload_n b dJ7_fill_53178_6 rfl rfl ?_
  refine y_icmp_ge (tgt := 20) (xl := x2.toInt) (yl := x3.toInt) b rfl rfl dJ7_fill_53178_7 (by decide) (fun c1 => ?_) (fun c1 => ?_)
  · replace h := h.1 c1
    refine z_lv0 (lv' := []) [] rfl ?_
    exact hk20 _ h
  · replace h := h.2 c1
    refine z_aload_n b dJ7_fill_53178_10 rfl rfl ?_
    refine z_iload_n b dJ7_fill_53178_11 rfl rfl ?_
    refine z_iload_n b dJ7_fill_53178_12 rfl rfl ?_
    obtain ⟨g1, h⟩ := h
    refine y_iast (q0 := 43) (j := x2.toNatClampNeg) b (kw_43 cy a rw S) (zx_r g1.1 g1.2) dJ7_fill_53178_13 (kwa_43 cy a rw S (x2.toNatClampNeg) x1) ?_
    refine z_iinc (k9 := 2) (v := (x2 + 1)) (lv' := [(2, .int (x2 + 1)), (0, .ref (a 43)), (1, .int x1), (3, .int x3)]) b dJ7_fill_53178_14 rfl rfl (by decide) rfl ?_
    refine z_goto (tgt := 5) b dJ7_fill_53178_17 (by decide) ?_
    refine z_lv0 (lv' := [(0, .ref (a 43)), (1, .int x1), (2, .int (x2 + 1)), (3, .int x3)]) [1, 2, 0, 3] rfl ?_
    exact hk5 _ _ _ _ h

set_option maxHeartbeats 4000000 in
set_option maxRecDepth 100000 in
theorem zl_J7_fill_53178_L5 {p : Program} {l : Launch} {e : Env} {R : Room} {s : State} {m : MethodId} {args : Array Value} {below : List Frame} {meth : Method} {c : Code} {D : va_G} {cy : Nat → ClassId} {T0 tB tE : Nat} {A : Nat → Prop} {a : Nat → Nat} {rw : Nat → Option Nat} (hrw : ∀ i, i < 6 → rw i = some (a (12 + 2 * i))) {post : KS → Prop} {k20 : KS → Prop} (b : Bz p R s m args meth c D cy T0 tB tE A 4 cJ7_fill_53178 RJ7 none "fill" 0 0 0 0) (hk20 : ∀ (S : KS), k20 S → Z p l e R s m args below meth c D A 4 (MQ below (QV D (U := KS) post (kw cy a rw) A) args s 0 0 A) 0 0 (kw cy a rw S) [] 20 []) : ∀ (n : Nat) (S : KS) (x1 : Int32) (x2 : Int32) (x3 : Int32), lpn (w_J7_fill_53178_F5 cy tE post k20) (fun _ _ _ _ => False) n S x1 x2 x3 → Z p l e R s m args below meth c D A 4 (MQ below (QV D (U := KS) post (kw cy a rw) A) args s 0 0 A) 0 0 (kw cy a rw S) [(0, .ref (a 43)), (1, .int x1), (2, .int x2), (3, .int x3)] 5 [] := by
  intro n
  induction n with
  | zero => intro _ _ _ _ h; exact h.elim
  | succ n ih => intro S x1 x2 x3 h; exact z_J7_fill_53178_F5 hrw b hk20 ih S x1 x2 x3 h

def w_J7_fill_53178_B20 (cy : Nat → ClassId) (tE : Nat) (post : KS → Prop) (S : KS)  : Prop :=
  post S

set_option maxHeartbeats 4000000 in
set_option maxRecDepth 100000 in
theorem z_J7_fill_53178_B20 {p : Program} {l : Launch} {e : Env} {R : Room} {s : State} {m : MethodId} {args : Array Value} {below : List Frame} {meth : Method} {c : Code} {D : va_G} {cy : Nat → ClassId} {T0 tB tE : Nat} {A : Nat → Prop} {a : Nat → Nat} {rw : Nat → Option Nat} (hrw : ∀ i, i < 6 → rw i = some (a (12 + 2 * i))) {post : KS → Prop} (b : Bz p R s m args meth c D cy T0 tB tE A 4 cJ7_fill_53178 RJ7 none "fill" 0 0 0 0) (S : KS)  (h : w_J7_fill_53178_B20 cy tE post S ) : Z p l e R s m args below meth c D A 4 (MQ below (QV D (U := KS) post (kw cy a rw) A) args s 0 0 A) 0 0 (kw cy a rw S) [] 20 [] := by
  unfold w_J7_fill_53178_B20 at h
  exact z_vret (u := S) b rfl dJ7_fill_53178_20 h rfl (by decide) (by decide)

def w_J7_fill_53178 (cy : Nat → ClassId) (tE : Nat) (S : KS) (p1 : Int32) (post : KS → Prop) : Prop :=
  ∃ n, lpn (w_J7_fill_53178_F5 cy tE post (w_J7_fill_53178_B20 cy tE post)) (fun _ _ _ _ => False) n S p1 0 1024

set_option maxHeartbeats 4000000 in
set_option maxRecDepth 100000 in
theorem k_J7_fill_53178 {l : Launch} {D : va_G} {cy : Nat → ClassId} {T0 tB tE : Nat} {a : Nat → Nat} {rw : Nat → Option Nat} (hrw : ∀ i, i < 6 → rw i = some (a (12 + 2 * i))) (S : KS) (p1 : Int32) (post : KS → Prop) (h : w_J7_fill_53178 cy tE S p1 post) : Ct l D cy T0 tB tE yJ7_fill_53178 cJ7_fill_53178 4 none 0 0 0 0 (kw cy a rw S) [.ref (a 43), .int p1] (QV D (U := KS) post (kw cy a rw)) := by
  refine Ct.ofZ RJ7 "fill" [(0, .ref (a 43)), (1, .int p1)] rfl rfl rfl rfl (Nat.le_of_ble_eq_true rfl) ?_
  intro p e R s m args below meth c A b
  unfold w_J7_fill_53178 at h
  refine z_iconst (v := 0) b dJ7_fill_53178_0 (by decide) ?_
  refine z_istore_n (lv' := [(2, .int 0), (0, .ref (a 43)), (1, .int p1)]) b dJ7_fill_53178_1 rfl (by decide) rfl ?_
  refine z_aload_n b dJ7_fill_53178_2 rfl rfl ?_
  refine z_alen (q0 := 43) (t0 := 0) (v := 1024) b (kw_43 cy a rw S) rfl rfl dJ7_fill_53178_3 ?_
  refine z_istore_n (lv' := [(3, .int 1024), (2, .int 0), (0, .ref (a 43)), (1, .int p1)]) b dJ7_fill_53178_4 rfl (by decide) rfl ?_
  refine z_lv0 (lv' := [(0, .ref (a 43)), (1, .int p1), (2, .int 0), (3, .int 1024)]) [2, 3, 1, 0] rfl ?_
  obtain ⟨n, h⟩ := h
  exact zl_J7_fill_53178_L5 hrw b (fun S h => z_J7_fill_53178_B20 hrw b _ h) n _ _ _ _ h

def w_X8_begin_B53 (cy : Nat → ClassId) (tE : Nat) (post : KS → Prop) (S : KS) (x1 : Int32) (x2 : Int32) (x3 : Int32) (x4 : Int32) : Prop :=
  w_X8_listCodes cy tE (ksi (ksi (ksi (ksi (ksi S 32 1) 27 x1) 28 x2) 29 x3) 30 x4) (fun S2 => w_J7_fill_53178 cy tE S2 0 (fun S4 => w_X9_packed cy tE (ksi (ksi (ksi S4 33 0) 31 0) 34 0) 0 0 0 (fun r5 S6 => w_X8_meet cy tE S6 r5 (-1) (-1) (fun S8 => post S8))))

set_option maxHeartbeats 4000000 in
set_option maxRecDepth 100000 in
theorem z_X8_begin_B53 {p : Program} {l : Launch} {e : Env} {R : Room} {s : State} {m : MethodId} {args : Array Value} {below : List Frame} {meth : Method} {c : Code} {D : va_G} {cy : Nat → ClassId} {T0 tB tE : Nat} {A : Nat → Prop} {a : Nat → Nat} {rw : Nat → Option Nat} (hrw : ∀ i, i < 6 → rw i = some (a (12 + 2 * i))) {post : KS → Prop} (b : Bz p R s m args meth c D cy T0 tB tE A 6 cX8_begin RX8 none "begin" 3 71 0 0) (S : KS) (x1 : Int32) (x2 : Int32) (x3 : Int32) (x4 : Int32) (h : w_X8_begin_B53 cy tE post S x1 x2 x3 x4) : Z p l e R s m args below meth c D A 6 (MQ below (QV D (U := KS) post (kw cy a rw) A) args s 0 0 A) 0 0 (kw cy a rw S) [(0, .ref (a 38)), (1, .int x1), (2, .int x2), (3, .int x3), (4, .int x4)] 53 [] := by
  unfold w_X8_begin_B53 at h
  refine z_aload_n b dX8_begin_53 rfl rfl ?_
  refine z_iconst (v := 1) b dX8_begin_54 (by decide) ?_
  refine z_put (q0 := 38) (k9 := 16) tyX8 b (kw_38 cy a rw S) rfl in_X8 tyX8_ok nmX8 (by decide) wf_X8_60 rfl rfl rfl rfl (Nat.le_of_ble_eq_true rfl) dX8_begin_55 (kwp_38_16 cy a rw S 1) ?_
  refine z_aload_n b dX8_begin_58 rfl rfl ?_
  refine z_iload_n b dX8_begin_59 rfl rfl ?_
  refine z_put (q0 := 38) (k9 := 11) tyX8 b (kw_38 cy a rw (ksi S 32 1)) rfl in_X8 tyX8_ok nmX8 (by decide) wf_X8_45 rfl rfl rfl rfl (Nat.le_of_ble_eq_true rfl) dX8_begin_60 (kwp_38_11 cy a rw (ksi S 32 1) x1) ?_
  refine z_aload_n b dX8_begin_63 rfl rfl ?_
  refine z_iload_n b dX8_begin_64 rfl rfl ?_
  refine z_put (q0 := 38) (k9 := 12) tyX8 b (kw_38 cy a rw (ksi (ksi S 32 1) 27 x1)) rfl in_X8 tyX8_ok nmX8 (by decide) wf_X8_48 rfl rfl rfl rfl (Nat.le_of_ble_eq_true rfl) dX8_begin_65 (kwp_38_12 cy a rw (ksi (ksi S 32 1) 27 x1) x2) ?_
  refine z_aload_n b dX8_begin_68 rfl rfl ?_
  refine z_iload_n b dX8_begin_69 rfl rfl ?_
  refine z_put (q0 := 38) (k9 := 13) tyX8 b (kw_38 cy a rw (ksi (ksi (ksi S 32 1) 27 x1) 28 x2)) rfl in_X8 tyX8_ok nmX8 (by decide) wf_X8_51 rfl rfl rfl rfl (Nat.le_of_ble_eq_true rfl) dX8_begin_70 (kwp_38_13 cy a rw (ksi (ksi (ksi S 32 1) 27 x1) 28 x2) x3) ?_
  refine z_aload_n b dX8_begin_73 rfl rfl ?_
  refine z_iload b dX8_begin_74 rfl ?_
  refine z_put (q0 := 38) (k9 := 14) tyX8 b (kw_38 cy a rw (ksi (ksi (ksi (ksi S 32 1) 27 x1) 28 x2) 29 x3)) rfl in_X8 tyX8_ok nmX8 (by decide) wf_X8_54 rfl rfl rfl rfl (Nat.le_of_ble_eq_true rfl) dX8_begin_76 (kwp_38_14 cy a rw (ksi (ksi (ksi (ksi S 32 1) 27 x1) 28 x2) 29 x3) x4) ?_
  refine z_aload_n b dX8_begin_79 rfl rfl ?_
  refine z_callv b (z_runV (q0 := 38) (As := []) (st := []) b (k_X8_listCodes hrw (ksi (ksi (ksi (ksi (ksi S 32 1) 27 x1) 28 x2) 29 x3) 30 x4) _ h) cf_X8_listCodes (kw_38 cy a rw (ksi (ksi (ksi (ksi (ksi S 32 1) 27 x1) 28 x2) 29 x3) 30 x4)) rfl wm_X8_77 wi_X8_listCodes ws_X8_listCodes dX8_begin_80 rfl (Nat.le_of_ble_eq_true rfl) ⟨by decide, by decide, Nat.le_of_ble_eq_true rfl, Nat.le_of_ble_eq_true rfl⟩) (fun S2 h => ?_)
  refine z_aload_n b dX8_begin_83 rfl rfl ?_
  refine z_get (q0 := 38) (k9 := 7) (v := .ref (a 43)) b (kw_38 cy a rw S2) rfl in_X8 (by decide) wf_X8_32 rfl dX8_begin_84 ?_
  refine z_iconst (v := 0) b dX8_begin_87 (by decide) ?_
  refine z_callv b (z_runS (As := [.ref (a 43), .int 0]) (st := []) b (k_J7_fill_53178 hrw S2 0 _ h) cf_J7_fill_53178 wm_X8_80 ws_J7_fill_53178 dX8_begin_88 rfl (Nat.le_of_ble_eq_true rfl) ⟨by decide, by decide, Nat.le_of_ble_eq_true rfl, Nat.le_of_ble_eq_true rfl⟩) (fun S4 h => ?_)
  refine z_aload_n b dX8_begin_91 rfl rfl ?_
  refine z_iconst (v := 0) b dX8_begin_92 (by decide) ?_
  refine z_put (q0 := 38) (k9 := 17) tyX8 b (kw_38 cy a rw S4) rfl in_X8 tyX8_ok nmX8 (by decide) wf_X8_64 rfl rfl rfl rfl (Nat.le_of_ble_eq_true rfl) dX8_begin_93 (kwp_38_17 cy a rw S4 0) ?_
  refine z_aload_n b dX8_begin_96 rfl rfl ?_
  refine z_iconst (v := 0) b dX8_begin_97 (by decide) ?_
  refine z_put (q0 := 38) (k9 := 15) tyX8 b (kw_38 cy a rw (ksi S4 33 0)) rfl in_X8 tyX8_ok nmX8 (by decide) wf_X8_57 rfl rfl rfl rfl (Nat.le_of_ble_eq_true rfl) dX8_begin_98 (kwp_38_15 cy a rw (ksi S4 33 0) 0) ?_
  refine z_aload_n b dX8_begin_101 rfl rfl ?_
  refine z_iconst (v := 0) b dX8_begin_102 (by decide) ?_
  refine z_put (q0 := 38) (k9 := 18) tyX8 b (kw_38 cy a rw (ksi (ksi S4 33 0) 31 0)) rfl in_X8 tyX8_ok nmX8 (by decide) wf_X8_67 rfl rfl rfl rfl (Nat.le_of_ble_eq_true rfl) dX8_begin_103 (kwp_38_18 cy a rw (ksi (ksi S4 33 0) 31 0) 0) ?_
  refine z_aload_n b dX8_begin_106 rfl rfl ?_
  refine z_aload_n b dX8_begin_107 rfl rfl ?_
  refine z_get (q0 := 38) (k9 := 1) (v := .ref (a 2)) b (kw_38 cy a rw (ksi (ksi (ksi S4 33 0) 31 0) 34 0)) rfl in_X8 (by decide) wf_X8_74 rfl dX8_begin_108 ?_
  refine z_iconst (v := 0) b dX8_begin_111 (by decide) ?_
  refine z_iconst (v := 0) b dX8_begin_112 (by decide) ?_
  refine z_calll b (z_runV (q0 := 2) (As := [.int 0, .int 0]) (st := [.ref (a 38)]) b (k_X9_packed hrw (ksi (ksi (ksi S4 33 0) 31 0) 34 0) 0 0 0 _ h) cf_X9_packed (kw_2 cy a rw (ksi (ksi (ksi S4 33 0) 31 0) 34 0)) rfl wm_X8_86 wi_X9_packed ws_X9_packed dX8_begin_113 rfl (Nat.le_of_ble_eq_true rfl) ⟨by decide, by decide, Nat.le_of_ble_eq_true rfl, Nat.le_of_ble_eq_true rfl⟩) (fun r5 S6 h => ?_)
  refine z_iconst (v := (-1)) b dX8_begin_116 (by decide) ?_
  refine z_iconst (v := (-1)) b dX8_begin_117 (by decide) ?_
  refine z_callv b (z_runV (q0 := 38) (As := [.long r5, .int (-1), .int (-1)]) (st := []) b (k_X8_meet hrw S6 r5 (-1) (-1) _ h) cf_X8_meet (kw_38 cy a rw S6) rfl wm_X8_90 wi_X8_meet ws_X8_meet dX8_begin_118 rfl (Nat.le_of_ble_eq_true rfl) ⟨by decide, by decide, Nat.le_of_ble_eq_true rfl, Nat.le_of_ble_eq_true rfl⟩) (fun S8 h => ?_)
  exact z_vret (u := S8) b rfl dX8_begin_121 h rfl (by decide) (by decide)

def w_X8_begin_B38 (cy : Nat → ClassId) (tE : Nat) (post : KS → Prop) (S : KS) (x1 : Int32) (x2 : Int32) (x3 : Int32) (x4 : Int32) (y0 : Int32) : Prop :=
  (((fi S.1 32).toInt = 0 → w_X8_begin_B53 cy tE post S x1 x2 x3 x4) ∧ ((fi S.1 32).toInt ≠ 0 → ((y0.toInt = 0 → w_X8_begin_B53 cy tE post S x1 x2 x3 x4) ∧ (y0.toInt ≠ 0 → post S))))

set_option maxHeartbeats 4000000 in
set_option maxRecDepth 100000 in
theorem z_X8_begin_B38 {p : Program} {l : Launch} {e : Env} {R : Room} {s : State} {m : MethodId} {args : Array Value} {below : List Frame} {meth : Method} {c : Code} {D : va_G} {cy : Nat → ClassId} {T0 tB tE : Nat} {A : Nat → Prop} {a : Nat → Nat} {rw : Nat → Option Nat} (hrw : ∀ i, i < 6 → rw i = some (a (12 + 2 * i))) {post : KS → Prop} (b : Bz p R s m args meth c D cy T0 tB tE A 6 cX8_begin RX8 none "begin" 3 71 0 0) (S : KS) (x1 : Int32) (x2 : Int32) (x3 : Int32) (x4 : Int32) (y0 : Int32) (h : w_X8_begin_B38 cy tE post S x1 x2 x3 x4 y0) : Z p l e R s m args below meth c D A 6 (MQ below (QV D (U := KS) post (kw cy a rw) A) args s 0 0 A) 0 0 (kw cy a rw S) [(0, .ref (a 38)), (1, .int x1), (2, .int x2), (3, .int x3), (4, .int x4)] 38 [.int y0] := by
  unfold w_X8_begin_B38 at h
  refine z_istore (lv' := [(5, .int y0), (0, .ref (a 38)), (1, .int x1), (2, .int x2), (3, .int x3), (4, .int x4)]) b dX8_begin_38 (by decide) rfl ?_
  refine z_aload_n b dX8_begin_40 rfl rfl ?_
  refine z_get (q0 := 38) (k9 := 16) (v := .int (fi S.1 32)) b (kw_38 cy a rw S) rfl in_X8 (by decide) wf_X8_60 rfl dX8_begin_41 ?_
  refine y_if_eq (tgt := 53) (xl := (fi S.1 32).toInt) b rfl dX8_begin_44 (by decide) (fun c1 => ?_) (fun c1 => ?_)
  · replace h := h.1 c1
    refine z_lv0 (lv' := [(0, .ref (a 38)), (1, .int x1), (2, .int x2), (3, .int x3), (4, .int x4)]) [1, 2, 3, 4, 5] rfl ?_
    exact z_X8_begin_B53 hrw b _ _ _ _ _ h
  · replace h := h.2 c1
    refine z_iload b dX8_begin_47 rfl ?_
    refine y_if_eq (tgt := 53) (xl := y0.toInt) b rfl dX8_begin_49 (by decide) (fun c1 => ?_) (fun c1 => ?_)
    · replace h := h.1 c1
      refine z_lv0 (lv' := [(0, .ref (a 38)), (1, .int x1), (2, .int x2), (3, .int x3), (4, .int x4)]) [1, 2, 3, 4, 5] rfl ?_
      exact z_X8_begin_B53 hrw b _ _ _ _ _ h
    · replace h := h.2 c1
      exact z_vret (u := S) b rfl dX8_begin_52 h rfl (by decide) (by decide)

def w_X8_begin_B37 (cy : Nat → ClassId) (tE : Nat) (post : KS → Prop) (S : KS) (x1 : Int32) (x2 : Int32) (x3 : Int32) (x4 : Int32) : Prop :=
  w_X8_begin_B38 cy tE post S x1 x2 x3 x4 0

set_option maxHeartbeats 4000000 in
set_option maxRecDepth 100000 in
theorem z_X8_begin_B37 {p : Program} {l : Launch} {e : Env} {R : Room} {s : State} {m : MethodId} {args : Array Value} {below : List Frame} {meth : Method} {c : Code} {D : va_G} {cy : Nat → ClassId} {T0 tB tE : Nat} {A : Nat → Prop} {a : Nat → Nat} {rw : Nat → Option Nat} (hrw : ∀ i, i < 6 → rw i = some (a (12 + 2 * i))) {post : KS → Prop} (b : Bz p R s m args meth c D cy T0 tB tE A 6 cX8_begin RX8 none "begin" 3 71 0 0) (S : KS) (x1 : Int32) (x2 : Int32) (x3 : Int32) (x4 : Int32) (h : w_X8_begin_B37 cy tE post S x1 x2 x3 x4) : Z p l e R s m args below meth c D A 6 (MQ below (QV D (U := KS) post (kw cy a rw) A) args s 0 0 A) 0 0 (kw cy a rw S) [(0, .ref (a 38)), (1, .int x1), (2, .int x2), (3, .int x3), (4, .int x4)] 37 [] := by
  unfold w_X8_begin_B37 at h
  refine z_iconst (v := 0) b dX8_begin_37 (by decide) ?_
  exact z_X8_begin_B38 hrw b _ _ _ _ _ _ h

def w_X8_begin (cy : Nat → ClassId) (tE : Nat) (S : KS) (p0 : Int32) (p1 : Int32) (p2 : Int32) (p3 : Int32) (post : KS → Prop) : Prop :=
  ((p0.toInt ≠ (fi S.1 27).toInt → w_X8_begin_B37 cy tE post S p0 p1 p2 p3) ∧ (p0.toInt = (fi S.1 27).toInt → ((p1.toInt ≠ (fi S.1 28).toInt → w_X8_begin_B37 cy tE post S p0 p1 p2 p3) ∧ (p1.toInt = (fi S.1 28).toInt → ((p2.toInt ≠ (fi S.1 29).toInt → w_X8_begin_B37 cy tE post S p0 p1 p2 p3) ∧ (p2.toInt = (fi S.1 29).toInt → ((p3.toInt ≠ (fi S.1 30).toInt → w_X8_begin_B37 cy tE post S p0 p1 p2 p3) ∧ (p3.toInt = (fi S.1 30).toInt → w_X8_begin_B38 cy tE post S p0 p1 p2 p3 1))))))))

set_option maxHeartbeats 4000000 in
set_option maxRecDepth 100000 in
theorem k_X8_begin {l : Launch} {D : va_G} {cy : Nat → ClassId} {T0 tB tE : Nat} {a : Nat → Nat} {rw : Nat → Option Nat} (hrw : ∀ i, i < 6 → rw i = some (a (12 + 2 * i))) (S : KS) (p0 : Int32) (p1 : Int32) (p2 : Int32) (p3 : Int32) (post : KS → Prop) (h : w_X8_begin cy tE S p0 p1 p2 p3 post) : Ct l D cy T0 tB tE yX8_begin cX8_begin 6 none 3 71 0 0 (kw cy a rw S) [.ref (a 38), .int p0, .int p1, .int p2, .int p3] (QV D (U := KS) post (kw cy a rw)) := by
  refine Ct.ofZ RX8 "begin" [(0, .ref (a 38)), (1, .int p0), (2, .int p1), (3, .int p2), (4, .int p3)] rfl rfl rfl rfl (Nat.le_of_ble_eq_true rfl) ?_
  intro p e R s m args below meth c A b
  unfold w_X8_begin at h
  refine z_iload_n b dX8_begin_0 rfl rfl ?_
  refine z_aload_n b dX8_begin_1 rfl rfl ?_
  refine z_get (q0 := 38) (k9 := 11) (v := .int (fi S.1 27)) b (kw_38 cy a rw S) rfl in_X8 (by decide) wf_X8_45 rfl dX8_begin_2 ?_
  refine y_icmp_ne (tgt := 37) (xl := p0.toInt) (yl := (fi S.1 27).toInt) b rfl rfl dX8_begin_5 (by decide) (fun c1 => ?_) (fun c1 => ?_)
  · replace h := h.1 c1
    exact z_X8_begin_B37 hrw b _ _ _ _ _ h
  · replace h := h.2 c1
    refine z_iload_n b dX8_begin_8 rfl rfl ?_
    refine z_aload_n b dX8_begin_9 rfl rfl ?_
    refine z_get (q0 := 38) (k9 := 12) (v := .int (fi S.1 28)) b (kw_38 cy a rw S) rfl in_X8 (by decide) wf_X8_48 rfl dX8_begin_10 ?_
    refine y_icmp_ne (tgt := 37) (xl := p1.toInt) (yl := (fi S.1 28).toInt) b rfl rfl dX8_begin_13 (by decide) (fun c1 => ?_) (fun c1 => ?_)
    · replace h := h.1 c1
      exact z_X8_begin_B37 hrw b _ _ _ _ _ h
    · replace h := h.2 c1
      refine z_iload_n b dX8_begin_16 rfl rfl ?_
      refine z_aload_n b dX8_begin_17 rfl rfl ?_
      refine z_get (q0 := 38) (k9 := 13) (v := .int (fi S.1 29)) b (kw_38 cy a rw S) rfl in_X8 (by decide) wf_X8_51 rfl dX8_begin_18 ?_
      refine y_icmp_ne (tgt := 37) (xl := p2.toInt) (yl := (fi S.1 29).toInt) b rfl rfl dX8_begin_21 (by decide) (fun c1 => ?_) (fun c1 => ?_)
      · replace h := h.1 c1
        exact z_X8_begin_B37 hrw b _ _ _ _ _ h
      · replace h := h.2 c1
        refine z_iload b dX8_begin_24 rfl ?_
        refine z_aload_n b dX8_begin_26 rfl rfl ?_
        refine z_get (q0 := 38) (k9 := 14) (v := .int (fi S.1 30)) b (kw_38 cy a rw S) rfl in_X8 (by decide) wf_X8_54 rfl dX8_begin_27 ?_
        refine y_icmp_ne (tgt := 37) (xl := p3.toInt) (yl := (fi S.1 30).toInt) b rfl rfl dX8_begin_30 (by decide) (fun c1 => ?_) (fun c1 => ?_)
        · replace h := h.1 c1
          exact z_X8_begin_B37 hrw b _ _ _ _ _ h
        · replace h := h.2 c1
          refine z_iconst (v := 1) b dX8_begin_33 (by decide) ?_
          refine z_goto (tgt := 38) b dX8_begin_34 (by decide) ?_
          exact z_X8_begin_B38 hrw b _ _ _ _ _ _ h

def w_X2_isNever_B64 (cy : Nat → ClassId) (tE : Nat) (post : Int32 → KS → Prop) (k19 : KS → Nat → Nat → Int32 → Int32 → Int32 → Prop) (k70 : KS → Nat → Nat → Int32 → Int32 → Prop) (S : KS) (x1 : Nat) (x2 : Nat) (x3 : Int32) (x4 : Int32) (x5 : Int32) : Prop :=
  k19 S x1 x2 x3 x4 (x5 + 1)

set_option maxHeartbeats 4000000 in
set_option maxRecDepth 100000 in
theorem z_X2_isNever_B64 {p : Program} {l : Launch} {e : Env} {R : Room} {s : State} {m : MethodId} {args : Array Value} {below : List Frame} {meth : Method} {c : Code} {D : va_G} {cy : Nat → ClassId} {T0 tB tE : Nat} {A : Nat → Prop} {a : Nat → Nat} {rw : Nat → Option Nat} (hrw : ∀ i, i < 6 → rw i = some (a (12 + 2 * i))) {post : Int32 → KS → Prop} {k19 : KS → Nat → Nat → Int32 → Int32 → Int32 → Prop} {k70 : KS → Nat → Nat → Int32 → Int32 → Prop} (b : Bz p R s m args meth c D cy T0 tB tE A 6 cX2_isNever RX2 (some .boolean) "isNever" 3 72 0 0) (hk19 : ∀ (S : KS) (x1 : Nat) (x2 : Nat) (x3 : Int32) (x4 : Int32) (x5 : Int32), k19 S x1 x2 x3 x4 x5 → Z p l e R s m args below meth c D A 6 (MQ below (QI D (U := KS) post (kw cy a rw) A) args s 0 0 A) 0 0 (kw cy a rw S) [(0, .ref (a 35)), (1, .ref (a (2 + 2 * x1))), (2, .ref x2), (3, .int x3), (4, .int x4), (5, .int x5)] 19 []) (hk70 : ∀ (S : KS) (x1 : Nat) (x2 : Nat) (x3 : Int32) (x4 : Int32), k70 S x1 x2 x3 x4 → Z p l e R s m args below meth c D A 6 (MQ below (QI D (U := KS) post (kw cy a rw) A) args s 0 0 A) 0 0 (kw cy a rw S) [(0, .ref (a 35)), (1, .ref (a (2 + 2 * x1))), (2, .ref x2), (3, .int x3), (4, .int x4)] 70 []) (S : KS) (x1 : Nat) (x2 : Nat) (x3 : Int32) (x4 : Int32) (x5 : Int32) (h : w_X2_isNever_B64 cy tE post k19 k70 S x1 x2 x3 x4 x5) : Z p l e R s m args below meth c D A 6 (MQ below (QI D (U := KS) post (kw cy a rw) A) args s 0 0 A) 0 0 (kw cy a rw S) [(0, .ref (a 35)), (1, .ref (a (2 + 2 * x1))), (2, .ref x2), (3, .int x3), (4, .int x4), (5, .int x5)] 64 [] := by
  unfold w_X2_isNever_B64 at h
  refine z_iinc (k9 := 5) (v := (x5 + 1)) (lv' := [(5, .int (x5 + 1)), (0, .ref (a 35)), (1, .ref (a (2 + 2 * x1))), (2, .ref x2), (3, .int x3), (4, .int x4)]) b dX2_isNever_64 rfl rfl (by decide) rfl ?_
  refine z_goto (tgt := 19) b dX2_isNever_67 (by decide) ?_
  refine z_lv0 (lv' := [(0, .ref (a 35)), (1, .ref (a (2 + 2 * x1))), (2, .ref x2), (3, .int x3), (4, .int x4), (5, .int (x5 + 1))]) [1, 2, 3, 4, 5, 0] rfl ?_
  exact hk19 _ _ _ _ _ _ h

def w_X2_isNever_F19 (cy : Nat → ClassId) (tE : Nat) (post : Int32 → KS → Prop) (k70 : KS → Nat → Nat → Int32 → Int32 → Prop) (k19 : KS → Nat → Nat → Int32 → Int32 → Int32 → Prop) (S : KS) (x1 : Nat) (x2 : Nat) (x3 : Int32) (x4 : Int32) (x5 : Int32) : Prop :=
  ((3 ≤ x5.toInt → k70 S x1 x2 x3 x4) ∧ (x5.toInt < 3 → w_X6_look cy tE S x1 ((((16 : Int32) * x3) + ((4 : Int32) * x4)) + x5) (fun S2 => ((x3.toInt = x4.toInt → w_X2_isNever_B64 cy tE post k19 k70 S2 x1 x2 x3 x4 x5) ∧ (x3.toInt ≠ x4.toInt → w_X6_value cy tE S2 x2 (fun r3 S4 => ((r3.toInt = 0 → w_X2_isNever_B64 cy tE post k19 k70 S4 x1 x2 x3 x4 x5) ∧ (r3.toInt ≠ 0 → post 1 S4))))))))

set_option maxHeartbeats 4000000 in
set_option maxRecDepth 100000 in
theorem z_X2_isNever_F19 {p : Program} {l : Launch} {e : Env} {R : Room} {s : State} {m : MethodId} {args : Array Value} {below : List Frame} {meth : Method} {c : Code} {D : va_G} {cy : Nat → ClassId} {T0 tB tE : Nat} {A : Nat → Prop} {a : Nat → Nat} {rw : Nat → Option Nat} (hrw : ∀ i, i < 6 → rw i = some (a (12 + 2 * i))) {post : Int32 → KS → Prop} {k70 : KS → Nat → Nat → Int32 → Int32 → Prop} {k19 : KS → Nat → Nat → Int32 → Int32 → Int32 → Prop} (b : Bz p R s m args meth c D cy T0 tB tE A 6 cX2_isNever RX2 (some .boolean) "isNever" 3 72 0 0) (hk70 : ∀ (S : KS) (x1 : Nat) (x2 : Nat) (x3 : Int32) (x4 : Int32), k70 S x1 x2 x3 x4 → Z p l e R s m args below meth c D A 6 (MQ below (QI D (U := KS) post (kw cy a rw) A) args s 0 0 A) 0 0 (kw cy a rw S) [(0, .ref (a 35)), (1, .ref (a (2 + 2 * x1))), (2, .ref x2), (3, .int x3), (4, .int x4)] 70 []) (hk19 : ∀ (S : KS) (x1 : Nat) (x2 : Nat) (x3 : Int32) (x4 : Int32) (x5 : Int32), k19 S x1 x2 x3 x4 x5 → Z p l e R s m args below meth c D A 6 (MQ below (QI D (U := KS) post (kw cy a rw) A) args s 0 0 A) 0 0 (kw cy a rw S) [(0, .ref (a 35)), (1, .ref (a (2 + 2 * x1))), (2, .ref x2), (3, .int x3), (4, .int x4), (5, .int x5)] 19 []) (S : KS) (x1 : Nat) (x2 : Nat) (x3 : Int32) (x4 : Int32) (x5 : Int32) (h : w_X2_isNever_F19 cy tE post k70 k19 S x1 x2 x3 x4 x5) : Z p l e R s m args below meth c D A 6 (MQ below (QI D (U := KS) post (kw cy a rw) A) args s 0 0 A) 0 0 (kw cy a rw S) [(0, .ref (a 35)), (1, .ref (a (2 + 2 * x1))), (2, .ref x2), (3, .int x3), (4, .int x4), (5, .int x5)] 19 [] := by
  unfold w_X2_isNever_F19 at h
  refine z_iload b dX2_isNever_19 rfl ?_
  refine z_iconst (v := 3) b dX2_isNever_21 (by decide) ?_
  refine y_icmp_ge (tgt := 70) (xl := x5.toInt) (yl := 3) b rfl (by decide) dX2_isNever_22 (by decide) (fun c1 => ?_) (fun c1 => ?_)
  · replace h := h.1 c1
    refine z_lv0 (lv' := [(0, .ref (a 35)), (1, .ref (a (2 + 2 * x1))), (2, .ref x2), (3, .int x3), (4, .int x4)]) [0, 1, 2, 3, 4] rfl ?_
    exact hk70 _ _ _ _ _ h
  · replace h := h.2 c1
    refine z_aload_n b dX2_isNever_25 rfl rfl ?_
    refine z_get (q0 := 35) (k9 := 1) (v := .ref (a 36)) b (kw_35 cy a rw S) rfl in_X2 (by decide) wf_X2_12 rfl dX2_isNever_26 ?_
    refine z_aload_n b dX2_isNever_29 rfl rfl ?_
    refine z_bipush (v := 16) b dX2_isNever_30 (by decide) ?_
    refine z_iload_n b dX2_isNever_32 rfl rfl ?_
    refine z_imul b dX2_isNever_33 rfl ?_
    refine z_iconst (v := 4) b dX2_isNever_34 (by decide) ?_
    refine z_iload b dX2_isNever_35 rfl ?_
    refine z_imul b dX2_isNever_37 rfl ?_
    refine z_iadd b dX2_isNever_38 rfl ?_
    refine z_iload b dX2_isNever_39 rfl ?_
    refine z_iadd b dX2_isNever_41 rfl ?_
    refine z_callv b (z_runV (q0 := 36) (As := [.ref (a (2 + 2 * x1)), .int ((((16 : Int32) * x3) + ((4 : Int32) * x4)) + x5)]) (st := []) b (k_X6_look hrw S x1 ((((16 : Int32) * x3) + ((4 : Int32) * x4)) + x5) _ h) cf_X6_look (kw_36 cy a rw S) rfl wm_X2_42 wi_X6_look ws_X6_look dX2_isNever_42 rfl (Nat.le_of_ble_eq_true rfl) ⟨by decide, by decide, Nat.le_of_ble_eq_true rfl, Nat.le_of_ble_eq_true rfl⟩) (fun S2 h => ?_)
    refine z_iload_n b dX2_isNever_45 rfl rfl ?_
    refine z_iload b dX2_isNever_46 rfl ?_
    refine y_icmp_eq (tgt := 64) (xl := x3.toInt) (yl := x4.toInt) b rfl rfl dX2_isNever_48 (by decide) (fun c1 => ?_) (fun c1 => ?_)
    · replace h := h.1 c1
      exact z_X2_isNever_B64 hrw b hk19 hk70 _ _ _ _ _ _ h
    · replace h := h.2 c1
      refine z_aload_n b dX2_isNever_51 rfl rfl ?_
      refine z_get (q0 := 35) (k9 := 1) (v := .ref (a 36)) b (kw_35 cy a rw S2) rfl in_X2 (by decide) wf_X2_12 rfl dX2_isNever_52 ?_
      refine z_aload_n b dX2_isNever_55 rfl rfl ?_
      refine z_calli b (z_runV (q0 := 36) (As := [.ref x2]) (st := []) b (k_X6_value hrw S2 x2 _ h) cf_X6_value (kw_36 cy a rw S2) rfl wm_X2_64 wi_X6_value ws_X6_value dX2_isNever_56 rfl (Nat.le_of_ble_eq_true rfl) ⟨by decide, by decide, Nat.le_of_ble_eq_true rfl, Nat.le_of_ble_eq_true rfl⟩) (fun r3 S4 h => ?_)
      refine y_if_eq (tgt := 64) (xl := r3.toInt) b rfl dX2_isNever_59 (by decide) (fun c1 => ?_) (fun c1 => ?_)
      · replace h := h.1 c1
        exact z_X2_isNever_B64 hrw b hk19 hk70 _ _ _ _ _ _ h
      · replace h := h.2 c1
        refine z_iconst (v := 1) b dX2_isNever_62 (by decide) ?_
        exact z_zret (u := S4) b rfl (by decide) dX2_isNever_63 h rfl (by decide) (by decide)

set_option maxHeartbeats 4000000 in
set_option maxRecDepth 100000 in
theorem zl_X2_isNever_L19 {p : Program} {l : Launch} {e : Env} {R : Room} {s : State} {m : MethodId} {args : Array Value} {below : List Frame} {meth : Method} {c : Code} {D : va_G} {cy : Nat → ClassId} {T0 tB tE : Nat} {A : Nat → Prop} {a : Nat → Nat} {rw : Nat → Option Nat} (hrw : ∀ i, i < 6 → rw i = some (a (12 + 2 * i))) {post : Int32 → KS → Prop} {k70 : KS → Nat → Nat → Int32 → Int32 → Prop} (b : Bz p R s m args meth c D cy T0 tB tE A 6 cX2_isNever RX2 (some .boolean) "isNever" 3 72 0 0) (hk70 : ∀ (S : KS) (x1 : Nat) (x2 : Nat) (x3 : Int32) (x4 : Int32), k70 S x1 x2 x3 x4 → Z p l e R s m args below meth c D A 6 (MQ below (QI D (U := KS) post (kw cy a rw) A) args s 0 0 A) 0 0 (kw cy a rw S) [(0, .ref (a 35)), (1, .ref (a (2 + 2 * x1))), (2, .ref x2), (3, .int x3), (4, .int x4)] 70 []) : ∀ (n : Nat) (S : KS) (x1 : Nat) (x2 : Nat) (x3 : Int32) (x4 : Int32) (x5 : Int32), lpn (w_X2_isNever_F19 cy tE post k70) (fun _ _ _ _ _ _ => False) n S x1 x2 x3 x4 x5 → Z p l e R s m args below meth c D A 6 (MQ below (QI D (U := KS) post (kw cy a rw) A) args s 0 0 A) 0 0 (kw cy a rw S) [(0, .ref (a 35)), (1, .ref (a (2 + 2 * x1))), (2, .ref x2), (3, .int x3), (4, .int x4), (5, .int x5)] 19 [] := by
  intro n
  induction n with
  | zero => intro _ _ _ _ _ _ h; exact h.elim
  | succ n ih => intro S x1 x2 x3 x4 x5 h; exact z_X2_isNever_F19 hrw b hk70 ih S x1 x2 x3 x4 x5 h

def w_X2_isNever_B70 (cy : Nat → ClassId) (tE : Nat) (post : Int32 → KS → Prop) (k10 : KS → Nat → Nat → Int32 → Int32 → Prop) (k76 : KS → Nat → Nat → Int32 → Prop) (S : KS) (x1 : Nat) (x2 : Nat) (x3 : Int32) (x4 : Int32) : Prop :=
  k10 S x1 x2 x3 (x4 + 1)

set_option maxHeartbeats 4000000 in
set_option maxRecDepth 100000 in
theorem z_X2_isNever_B70 {p : Program} {l : Launch} {e : Env} {R : Room} {s : State} {m : MethodId} {args : Array Value} {below : List Frame} {meth : Method} {c : Code} {D : va_G} {cy : Nat → ClassId} {T0 tB tE : Nat} {A : Nat → Prop} {a : Nat → Nat} {rw : Nat → Option Nat} (hrw : ∀ i, i < 6 → rw i = some (a (12 + 2 * i))) {post : Int32 → KS → Prop} {k10 : KS → Nat → Nat → Int32 → Int32 → Prop} {k76 : KS → Nat → Nat → Int32 → Prop} (b : Bz p R s m args meth c D cy T0 tB tE A 6 cX2_isNever RX2 (some .boolean) "isNever" 3 72 0 0) (hk10 : ∀ (S : KS) (x1 : Nat) (x2 : Nat) (x3 : Int32) (x4 : Int32), k10 S x1 x2 x3 x4 → Z p l e R s m args below meth c D A 6 (MQ below (QI D (U := KS) post (kw cy a rw) A) args s 0 0 A) 0 0 (kw cy a rw S) [(0, .ref (a 35)), (1, .ref (a (2 + 2 * x1))), (2, .ref x2), (3, .int x3), (4, .int x4)] 10 []) (hk76 : ∀ (S : KS) (x1 : Nat) (x2 : Nat) (x3 : Int32), k76 S x1 x2 x3 → Z p l e R s m args below meth c D A 6 (MQ below (QI D (U := KS) post (kw cy a rw) A) args s 0 0 A) 0 0 (kw cy a rw S) [(0, .ref (a 35)), (1, .ref (a (2 + 2 * x1))), (2, .ref x2), (3, .int x3)] 76 []) (S : KS) (x1 : Nat) (x2 : Nat) (x3 : Int32) (x4 : Int32) (h : w_X2_isNever_B70 cy tE post k10 k76 S x1 x2 x3 x4) : Z p l e R s m args below meth c D A 6 (MQ below (QI D (U := KS) post (kw cy a rw) A) args s 0 0 A) 0 0 (kw cy a rw S) [(0, .ref (a 35)), (1, .ref (a (2 + 2 * x1))), (2, .ref x2), (3, .int x3), (4, .int x4)] 70 [] := by
  unfold w_X2_isNever_B70 at h
  refine z_iinc (k9 := 4) (v := (x4 + 1)) (lv' := [(4, .int (x4 + 1)), (0, .ref (a 35)), (1, .ref (a (2 + 2 * x1))), (2, .ref x2), (3, .int x3)]) b dX2_isNever_70 rfl rfl (by decide) rfl ?_
  refine z_goto (tgt := 10) b dX2_isNever_73 (by decide) ?_
  refine z_lv0 (lv' := [(0, .ref (a 35)), (1, .ref (a (2 + 2 * x1))), (2, .ref x2), (3, .int x3), (4, .int (x4 + 1))]) [1, 2, 3, 4, 0] rfl ?_
  exact hk10 _ _ _ _ _ h

def w_X2_isNever_F10 (cy : Nat → ClassId) (tE : Nat) (post : Int32 → KS → Prop) (k76 : KS → Nat → Nat → Int32 → Prop) (k10 : KS → Nat → Nat → Int32 → Int32 → Prop) (S : KS) (x1 : Nat) (x2 : Nat) (x3 : Int32) (x4 : Int32) : Prop :=
  ((3 ≤ x4.toInt → k76 S x1 x2 x3) ∧ (x4.toInt < 3 → ∃ n, lpn (w_X2_isNever_F19 cy tE post (w_X2_isNever_B70 cy tE post k10 k76)) (fun _ _ _ _ _ _ => False) n S x1 x2 x3 x4 0))

set_option maxHeartbeats 4000000 in
set_option maxRecDepth 100000 in
theorem z_X2_isNever_F10 {p : Program} {l : Launch} {e : Env} {R : Room} {s : State} {m : MethodId} {args : Array Value} {below : List Frame} {meth : Method} {c : Code} {D : va_G} {cy : Nat → ClassId} {T0 tB tE : Nat} {A : Nat → Prop} {a : Nat → Nat} {rw : Nat → Option Nat} (hrw : ∀ i, i < 6 → rw i = some (a (12 + 2 * i))) {post : Int32 → KS → Prop} {k76 : KS → Nat → Nat → Int32 → Prop} {k10 : KS → Nat → Nat → Int32 → Int32 → Prop} (b : Bz p R s m args meth c D cy T0 tB tE A 6 cX2_isNever RX2 (some .boolean) "isNever" 3 72 0 0) (hk76 : ∀ (S : KS) (x1 : Nat) (x2 : Nat) (x3 : Int32), k76 S x1 x2 x3 → Z p l e R s m args below meth c D A 6 (MQ below (QI D (U := KS) post (kw cy a rw) A) args s 0 0 A) 0 0 (kw cy a rw S) [(0, .ref (a 35)), (1, .ref (a (2 + 2 * x1))), (2, .ref x2), (3, .int x3)] 76 []) (hk10 : ∀ (S : KS) (x1 : Nat) (x2 : Nat) (x3 : Int32) (x4 : Int32), k10 S x1 x2 x3 x4 → Z p l e R s m args below meth c D A 6 (MQ below (QI D (U := KS) post (kw cy a rw) A) args s 0 0 A) 0 0 (kw cy a rw S) [(0, .ref (a 35)), (1, .ref (a (2 + 2 * x1))), (2, .ref x2), (3, .int x3), (4, .int x4)] 10 []) (S : KS) (x1 : Nat) (x2 : Nat) (x3 : Int32) (x4 : Int32) (h : w_X2_isNever_F10 cy tE post k76 k10 S x1 x2 x3 x4) : Z p l e R s m args below meth c D A 6 (MQ below (QI D (U := KS) post (kw cy a rw) A) args s 0 0 A) 0 0 (kw cy a rw S) [(0, .ref (a 35)), (1, .ref (a (2 + 2 * x1))), (2, .ref x2), (3, .int x3), (4, .int x4)] 10 [] := by
  unfold w_X2_isNever_F10 at h
  refine z_iload b dX2_isNever_10 rfl ?_
  refine z_iconst (v := 3) b dX2_isNever_12 (by decide) ?_
  refine y_icmp_ge (tgt := 76) (xl := x4.toInt) (yl := 3) b rfl (by decide) dX2_isNever_13 (by decide) (fun c1 => ?_) (fun c1 => ?_)
  · replace h := h.1 c1
    refine z_lv0 (lv' := [(0, .ref (a 35)), (1, .ref (a (2 + 2 * x1))), (2, .ref x2), (3, .int x3)]) [0, 1, 2, 3] rfl ?_
    exact hk76 _ _ _ _ h
  · replace h := h.2 c1
    refine z_iconst (v := 0) b dX2_isNever_16 (by decide) ?_
    refine z_istore (lv' := [(5, .int 0), (0, .ref (a 35)), (1, .ref (a (2 + 2 * x1))), (2, .ref x2), (3, .int x3), (4, .int x4)]) b dX2_isNever_17 (by decide) rfl ?_
    refine z_lv0 (lv' := [(0, .ref (a 35)), (1, .ref (a (2 + 2 * x1))), (2, .ref x2), (3, .int x3), (4, .int x4), (5, .int 0)]) [1, 2, 3, 4, 5, 0] rfl ?_
    obtain ⟨n, h⟩ := h
    exact zl_X2_isNever_L19 hrw b (fun S x1 x2 x3 x4 h => z_X2_isNever_B70 hrw b hk10 hk76 _ _ _ _ _ h) n _ _ _ _ _ _ h

set_option maxHeartbeats 4000000 in
set_option maxRecDepth 100000 in
theorem zl_X2_isNever_L10 {p : Program} {l : Launch} {e : Env} {R : Room} {s : State} {m : MethodId} {args : Array Value} {below : List Frame} {meth : Method} {c : Code} {D : va_G} {cy : Nat → ClassId} {T0 tB tE : Nat} {A : Nat → Prop} {a : Nat → Nat} {rw : Nat → Option Nat} (hrw : ∀ i, i < 6 → rw i = some (a (12 + 2 * i))) {post : Int32 → KS → Prop} {k76 : KS → Nat → Nat → Int32 → Prop} (b : Bz p R s m args meth c D cy T0 tB tE A 6 cX2_isNever RX2 (some .boolean) "isNever" 3 72 0 0) (hk76 : ∀ (S : KS) (x1 : Nat) (x2 : Nat) (x3 : Int32), k76 S x1 x2 x3 → Z p l e R s m args below meth c D A 6 (MQ below (QI D (U := KS) post (kw cy a rw) A) args s 0 0 A) 0 0 (kw cy a rw S) [(0, .ref (a 35)), (1, .ref (a (2 + 2 * x1))), (2, .ref x2), (3, .int x3)] 76 []) : ∀ (n : Nat) (S : KS) (x1 : Nat) (x2 : Nat) (x3 : Int32) (x4 : Int32), lpn (w_X2_isNever_F10 cy tE post k76) (fun _ _ _ _ _ => False) n S x1 x2 x3 x4 → Z p l e R s m args below meth c D A 6 (MQ below (QI D (U := KS) post (kw cy a rw) A) args s 0 0 A) 0 0 (kw cy a rw S) [(0, .ref (a 35)), (1, .ref (a (2 + 2 * x1))), (2, .ref x2), (3, .int x3), (4, .int x4)] 10 [] := by
  intro n
  induction n with
  | zero => intro _ _ _ _ _ h; exact h.elim
  | succ n ih => intro S x1 x2 x3 x4 h; exact z_X2_isNever_F10 hrw b hk76 ih S x1 x2 x3 x4 h

def w_X2_isNever_B76 (cy : Nat → ClassId) (tE : Nat) (post : Int32 → KS → Prop) (k2 : KS → Nat → Nat → Int32 → Prop) (k82 : KS → Prop) (S : KS) (x1 : Nat) (x2 : Nat) (x3 : Int32) : Prop :=
  k2 S x1 x2 (x3 + 1)

set_option maxHeartbeats 4000000 in
set_option maxRecDepth 100000 in
theorem z_X2_isNever_B76 {p : Program} {l : Launch} {e : Env} {R : Room} {s : State} {m : MethodId} {args : Array Value} {below : List Frame} {meth : Method} {c : Code} {D : va_G} {cy : Nat → ClassId} {T0 tB tE : Nat} {A : Nat → Prop} {a : Nat → Nat} {rw : Nat → Option Nat} (hrw : ∀ i, i < 6 → rw i = some (a (12 + 2 * i))) {post : Int32 → KS → Prop} {k2 : KS → Nat → Nat → Int32 → Prop} {k82 : KS → Prop} (b : Bz p R s m args meth c D cy T0 tB tE A 6 cX2_isNever RX2 (some .boolean) "isNever" 3 72 0 0) (hk2 : ∀ (S : KS) (x1 : Nat) (x2 : Nat) (x3 : Int32), k2 S x1 x2 x3 → Z p l e R s m args below meth c D A 6 (MQ below (QI D (U := KS) post (kw cy a rw) A) args s 0 0 A) 0 0 (kw cy a rw S) [(0, .ref (a 35)), (1, .ref (a (2 + 2 * x1))), (2, .ref x2), (3, .int x3)] 2 []) (hk82 : ∀ (S : KS), k82 S → Z p l e R s m args below meth c D A 6 (MQ below (QI D (U := KS) post (kw cy a rw) A) args s 0 0 A) 0 0 (kw cy a rw S) [] 82 []) (S : KS) (x1 : Nat) (x2 : Nat) (x3 : Int32) (h : w_X2_isNever_B76 cy tE post k2 k82 S x1 x2 x3) : Z p l e R s m args below meth c D A 6 (MQ below (QI D (U := KS) post (kw cy a rw) A) args s 0 0 A) 0 0 (kw cy a rw S) [(0, .ref (a 35)), (1, .ref (a (2 + 2 * x1))), (2, .ref x2), (3, .int x3)] 76 [] := by
  unfold w_X2_isNever_B76 at h
  refine z_iinc (k9 := 3) (v := (x3 + 1)) (lv' := [(3, .int (x3 + 1)), (0, .ref (a 35)), (1, .ref (a (2 + 2 * x1))), (2, .ref x2)]) b dX2_isNever_76 rfl rfl (by decide) rfl ?_
  refine z_goto (tgt := 2) b dX2_isNever_79 (by decide) ?_
  refine z_lv0 (lv' := [(0, .ref (a 35)), (1, .ref (a (2 + 2 * x1))), (2, .ref x2), (3, .int (x3 + 1))]) [1, 2, 3, 0] rfl ?_
  exact hk2 _ _ _ _ h

def w_X2_isNever_F2 (cy : Nat → ClassId) (tE : Nat) (post : Int32 → KS → Prop) (k82 : KS → Prop) (k2 : KS → Nat → Nat → Int32 → Prop) (S : KS) (x1 : Nat) (x2 : Nat) (x3 : Int32) : Prop :=
  ((3 ≤ x3.toInt → k82 S) ∧ (x3.toInt < 3 → ∃ n, lpn (w_X2_isNever_F10 cy tE post (w_X2_isNever_B76 cy tE post k2 k82)) (fun _ _ _ _ _ => False) n S x1 x2 x3 0))

set_option maxHeartbeats 4000000 in
set_option maxRecDepth 100000 in
theorem z_X2_isNever_F2 {p : Program} {l : Launch} {e : Env} {R : Room} {s : State} {m : MethodId} {args : Array Value} {below : List Frame} {meth : Method} {c : Code} {D : va_G} {cy : Nat → ClassId} {T0 tB tE : Nat} {A : Nat → Prop} {a : Nat → Nat} {rw : Nat → Option Nat} (hrw : ∀ i, i < 6 → rw i = some (a (12 + 2 * i))) {post : Int32 → KS → Prop} {k82 : KS → Prop} {k2 : KS → Nat → Nat → Int32 → Prop} (b : Bz p R s m args meth c D cy T0 tB tE A 6 cX2_isNever RX2 (some .boolean) "isNever" 3 72 0 0) (hk82 : ∀ (S : KS), k82 S → Z p l e R s m args below meth c D A 6 (MQ below (QI D (U := KS) post (kw cy a rw) A) args s 0 0 A) 0 0 (kw cy a rw S) [] 82 []) (hk2 : ∀ (S : KS) (x1 : Nat) (x2 : Nat) (x3 : Int32), k2 S x1 x2 x3 → Z p l e R s m args below meth c D A 6 (MQ below (QI D (U := KS) post (kw cy a rw) A) args s 0 0 A) 0 0 (kw cy a rw S) [(0, .ref (a 35)), (1, .ref (a (2 + 2 * x1))), (2, .ref x2), (3, .int x3)] 2 []) (S : KS) (x1 : Nat) (x2 : Nat) (x3 : Int32) (h : w_X2_isNever_F2 cy tE post k82 k2 S x1 x2 x3) : Z p l e R s m args below meth c D A 6 (MQ below (QI D (U := KS) post (kw cy a rw) A) args s 0 0 A) 0 0 (kw cy a rw S) [(0, .ref (a 35)), (1, .ref (a (2 + 2 * x1))), (2, .ref x2), (3, .int x3)] 2 [] := by
  unfold w_X2_isNever_F2 at h
  refine z_iload_n b dX2_isNever_2 rfl rfl ?_
  refine z_iconst (v := 3) b dX2_isNever_3 (by decide) ?_
  refine y_icmp_ge (tgt := 82) (xl := x3.toInt) (yl := 3) b rfl (by decide) dX2_isNever_4 (by decide) (fun c1 => ?_) (fun c1 => ?_)
  · replace h := h.1 c1
    refine z_lv0 (lv' := []) [] rfl ?_
    exact hk82 _ h
  · replace h := h.2 c1
    refine z_iconst (v := 0) b dX2_isNever_7 (by decide) ?_
    refine z_istore (lv' := [(4, .int 0), (0, .ref (a 35)), (1, .ref (a (2 + 2 * x1))), (2, .ref x2), (3, .int x3)]) b dX2_isNever_8 (by decide) rfl ?_
    refine z_lv0 (lv' := [(0, .ref (a 35)), (1, .ref (a (2 + 2 * x1))), (2, .ref x2), (3, .int x3), (4, .int 0)]) [1, 2, 3, 4, 0] rfl ?_
    obtain ⟨n, h⟩ := h
    exact zl_X2_isNever_L10 hrw b (fun S x1 x2 x3 h => z_X2_isNever_B76 hrw b hk2 hk82 _ _ _ _ h) n _ _ _ _ _ h

set_option maxHeartbeats 4000000 in
set_option maxRecDepth 100000 in
theorem zl_X2_isNever_L2 {p : Program} {l : Launch} {e : Env} {R : Room} {s : State} {m : MethodId} {args : Array Value} {below : List Frame} {meth : Method} {c : Code} {D : va_G} {cy : Nat → ClassId} {T0 tB tE : Nat} {A : Nat → Prop} {a : Nat → Nat} {rw : Nat → Option Nat} (hrw : ∀ i, i < 6 → rw i = some (a (12 + 2 * i))) {post : Int32 → KS → Prop} {k82 : KS → Prop} (b : Bz p R s m args meth c D cy T0 tB tE A 6 cX2_isNever RX2 (some .boolean) "isNever" 3 72 0 0) (hk82 : ∀ (S : KS), k82 S → Z p l e R s m args below meth c D A 6 (MQ below (QI D (U := KS) post (kw cy a rw) A) args s 0 0 A) 0 0 (kw cy a rw S) [] 82 []) : ∀ (n : Nat) (S : KS) (x1 : Nat) (x2 : Nat) (x3 : Int32), lpn (w_X2_isNever_F2 cy tE post k82) (fun _ _ _ _ => False) n S x1 x2 x3 → Z p l e R s m args below meth c D A 6 (MQ below (QI D (U := KS) post (kw cy a rw) A) args s 0 0 A) 0 0 (kw cy a rw S) [(0, .ref (a 35)), (1, .ref (a (2 + 2 * x1))), (2, .ref x2), (3, .int x3)] 2 [] := by
  intro n
  induction n with
  | zero => intro _ _ _ _ h; exact h.elim
  | succ n ih => intro S x1 x2 x3 h; exact z_X2_isNever_F2 hrw b hk82 ih S x1 x2 x3 h

def w_X2_isNever_B82 (cy : Nat → ClassId) (tE : Nat) (post : Int32 → KS → Prop) (S : KS)  : Prop :=
  post 0 S

set_option maxHeartbeats 4000000 in
set_option maxRecDepth 100000 in
theorem z_X2_isNever_B82 {p : Program} {l : Launch} {e : Env} {R : Room} {s : State} {m : MethodId} {args : Array Value} {below : List Frame} {meth : Method} {c : Code} {D : va_G} {cy : Nat → ClassId} {T0 tB tE : Nat} {A : Nat → Prop} {a : Nat → Nat} {rw : Nat → Option Nat} (hrw : ∀ i, i < 6 → rw i = some (a (12 + 2 * i))) {post : Int32 → KS → Prop} (b : Bz p R s m args meth c D cy T0 tB tE A 6 cX2_isNever RX2 (some .boolean) "isNever" 3 72 0 0) (S : KS)  (h : w_X2_isNever_B82 cy tE post S ) : Z p l e R s m args below meth c D A 6 (MQ below (QI D (U := KS) post (kw cy a rw) A) args s 0 0 A) 0 0 (kw cy a rw S) [] 82 [] := by
  unfold w_X2_isNever_B82 at h
  refine z_iconst (v := 0) b dX2_isNever_82 (by decide) ?_
  exact z_zret (u := S) b rfl (by decide) dX2_isNever_83 h rfl (by decide) (by decide)

def w_X2_isNever (cy : Nat → ClassId) (tE : Nat) (S : KS) (p0 : Nat) (p1 : Nat) (post : Int32 → KS → Prop) : Prop :=
  ∃ n, lpn (w_X2_isNever_F2 cy tE post (w_X2_isNever_B82 cy tE post)) (fun _ _ _ _ => False) n S p0 p1 0

set_option maxHeartbeats 4000000 in
set_option maxRecDepth 100000 in
theorem k_X2_isNever {l : Launch} {D : va_G} {cy : Nat → ClassId} {T0 tB tE : Nat} {a : Nat → Nat} {rw : Nat → Option Nat} (hrw : ∀ i, i < 6 → rw i = some (a (12 + 2 * i))) (S : KS) (p0 : Nat) (p1 : Nat) (post : Int32 → KS → Prop) (h : w_X2_isNever cy tE S p0 p1 post) : Ct l D cy T0 tB tE yX2_isNever cX2_isNever 6 (some .boolean) 3 72 0 0 (kw cy a rw S) [.ref (a 35), .ref (a (2 + 2 * p0)), .ref p1] (QI D (U := KS) post (kw cy a rw)) := by
  refine Ct.ofZ RX2 "isNever" [(0, .ref (a 35)), (1, .ref (a (2 + 2 * p0))), (2, .ref p1)] rfl rfl rfl rfl (Nat.le_of_ble_eq_true rfl) ?_
  intro p e R s m args below meth c A b
  unfold w_X2_isNever at h
  refine z_iconst (v := 0) b dX2_isNever_0 (by decide) ?_
  refine z_istore_n (lv' := [(3, .int 0), (0, .ref (a 35)), (1, .ref (a (2 + 2 * p0))), (2, .ref p1)]) b dX2_isNever_1 rfl (by decide) rfl ?_
  refine z_lv0 (lv' := [(0, .ref (a 35)), (1, .ref (a (2 + 2 * p0))), (2, .ref p1), (3, .int 0)]) [1, 2, 3, 0] rfl ?_
  obtain ⟨n, h⟩ := h
  exact zl_X2_isNever_L2 hrw b (fun S h => z_X2_isNever_B82 hrw b _ h) n _ _ _ _ h

def w_X8_first_B21 (cy : Nat → ClassId) (tE : Nat) (post : Int32 → KS → Prop) (S : KS)  : Prop :=
  post (-1) S

set_option maxHeartbeats 4000000 in
set_option maxRecDepth 100000 in
theorem z_X8_first_B21 {p : Program} {l : Launch} {e : Env} {R : Room} {s : State} {m : MethodId} {args : Array Value} {below : List Frame} {meth : Method} {c : Code} {D : va_G} {cy : Nat → ClassId} {T0 tB tE : Nat} {A : Nat → Prop} {a : Nat → Nat} {rw : Nat → Option Nat} (hrw : ∀ i, i < 6 → rw i = some (a (12 + 2 * i))) {post : Int32 → KS → Prop} (b : Bz p R s m args meth c D cy T0 tB tE A 5 cX8_first RX8 (some .int) "first" 5 122 0 0) (S : KS)  (h : w_X8_first_B21 cy tE post S ) : Z p l e R s m args below meth c D A 5 (MQ below (QI D (U := KS) post (kw cy a rw) A) args s 0 0 A) 0 0 (kw cy a rw S) [] 21 [] := by
  unfold w_X8_first_B21 at h
  refine z_iconst (v := (-1)) b dX8_first_21 (by decide) ?_
  exact z_iret (u := S) b rfl dX8_first_22 h rfl (by decide) (by decide)

def w_X8_first_F54 (cy : Nat → ClassId) (tE : Nat) (post : Int32 → KS → Prop) (k90 : KS → Nat → Int32 → Int32 → Prop) (k54 : KS → Nat → Int32 → Int32 → Prop) (S : KS) (x2 : Nat) (x3 : Int32) (x4 : Int32) : Prop :=
  (((fi S.1 33).toInt ≤ x3.toInt → k90 S x2 x3 x4) ∧ (x3.toInt < (fi S.1 33).toInt → w_X8_load cy tE S x3 (fun S17 => w_X2_isNever cy tE S17 4 x2 (fun r18 S19 => ((r18.toInt = 0 → k54 S19 x2 (x3 + 1) x4) ∧ (r18.toInt ≠ 0 → post x3 S19))))))

set_option maxHeartbeats 4000000 in
set_option maxRecDepth 100000 in
theorem z_X8_first_F54 {p : Program} {l : Launch} {e : Env} {R : Room} {s : State} {m : MethodId} {args : Array Value} {below : List Frame} {meth : Method} {c : Code} {D : va_G} {cy : Nat → ClassId} {T0 tB tE : Nat} {A : Nat → Prop} {a : Nat → Nat} {rw : Nat → Option Nat} (hrw : ∀ i, i < 6 → rw i = some (a (12 + 2 * i))) {post : Int32 → KS → Prop} {k90 : KS → Nat → Int32 → Int32 → Prop} {k54 : KS → Nat → Int32 → Int32 → Prop} (b : Bz p R s m args meth c D cy T0 tB tE A 5 cX8_first RX8 (some .int) "first" 5 122 0 0) (hk90 : ∀ (S : KS) (x2 : Nat) (x3 : Int32) (x4 : Int32), k90 S x2 x3 x4 → Z p l e R s m args below meth c D A 5 (MQ below (QI D (U := KS) post (kw cy a rw) A) args s 0 0 A) 0 0 (kw cy a rw S) [(0, .ref (a 38)), (2, .ref x2), (3, .int x3), (4, .int x4)] 90 []) (hk54 : ∀ (S : KS) (x2 : Nat) (x3 : Int32) (x4 : Int32), k54 S x2 x3 x4 → Z p l e R s m args below meth c D A 5 (MQ below (QI D (U := KS) post (kw cy a rw) A) args s 0 0 A) 0 0 (kw cy a rw S) [(0, .ref (a 38)), (2, .ref x2), (3, .int x3), (4, .int x4)] 54 []) (S : KS) (x2 : Nat) (x3 : Int32) (x4 : Int32) (h : w_X8_first_F54 cy tE post k90 k54 S x2 x3 x4) : Z p l e R s m args below meth c D A 5 (MQ below (QI D (U := KS) post (kw cy a rw) A) args s 0 0 A) 0 0 (kw cy a rw S) [(0, .ref (a 38)), (2, .ref x2), (3, .int x3), (4, .int x4)] 54 [] := by
  unfold w_X8_first_F54 at h
  refine z_iload_n b dX8_first_54 rfl rfl ?_
  refine z_aload_n b dX8_first_55 rfl rfl ?_
  refine z_get (q0 := 38) (k9 := 17) (v := .int (fi S.1 33)) b (kw_38 cy a rw S) rfl in_X8 (by decide) wf_X8_64 rfl dX8_first_56 ?_
  refine y_icmp_ge (tgt := 90) (xl := x3.toInt) (yl := (fi S.1 33).toInt) b rfl rfl dX8_first_59 (by decide) (fun c1 => ?_) (fun c1 => ?_)
  · replace h := h.1 c1
    exact hk90 _ _ _ _ h
  · replace h := h.2 c1
    refine z_aload_n b dX8_first_62 rfl rfl ?_
    refine z_iload_n b dX8_first_63 rfl rfl ?_
    refine z_callv b (z_runV (q0 := 38) (As := [.int x3]) (st := []) b (k_X8_load hrw S x3 _ h) cf_X8_load (kw_38 cy a rw S) rfl wm_X8_153 wi_X8_load ws_X8_load dX8_first_64 rfl (Nat.le_of_ble_eq_true rfl) ⟨by decide, by decide, Nat.le_of_ble_eq_true rfl, Nat.le_of_ble_eq_true rfl⟩) (fun S17 h => ?_)
    refine z_aload_n b dX8_first_67 rfl rfl ?_
    refine z_get (q0 := 38) (k9 := 0) (v := .ref (a 35)) b (kw_38 cy a rw S17) rfl in_X8 (by decide) wf_X8_70 rfl dX8_first_68 ?_
    refine z_aload_n b dX8_first_71 rfl rfl ?_
    refine z_get (q0 := 38) (k9 := 2) (v := .ref (a 10)) b (kw_38 cy a rw S17) rfl in_X8 (by decide) wf_X8_12 rfl dX8_first_72 ?_
    refine z_aload_n b dX8_first_75 rfl rfl ?_
    refine z_calli b (z_runV (q0 := 35) (As := [.ref (a 10), .ref x2]) (st := []) b (k_X2_isNever hrw S17 4 x2 _ h) cf_X2_isNever (kw_35 cy a rw S17) rfl wm_X8_157 wi_X2_isNever ws_X2_isNever dX8_first_76 rfl (Nat.le_of_ble_eq_true rfl) ⟨by decide, by decide, Nat.le_of_ble_eq_true rfl, Nat.le_of_ble_eq_true rfl⟩) (fun r18 S19 h => ?_)
    refine y_if_eq (tgt := 84) (xl := r18.toInt) b rfl dX8_first_79 (by decide) (fun c1 => ?_) (fun c1 => ?_)
    · replace h := h.1 c1
      refine z_iinc (k9 := 2) (v := (x3 + 1)) (lv' := [(3, .int (x3 + 1)), (0, .ref (a 38)), (2, .ref x2), (4, .int x4)]) b dX8_first_84 rfl rfl (by decide) rfl ?_
      refine z_goto (tgt := 54) b dX8_first_87 (by decide) ?_
      refine z_lv0 (lv' := [(0, .ref (a 38)), (2, .ref x2), (3, .int (x3 + 1)), (4, .int x4)]) [1, 2, 0, 3] rfl ?_
      exact hk54 _ _ _ _ h
    · replace h := h.2 c1
      refine z_iload_n b dX8_first_82 rfl rfl ?_
      exact z_iret (u := S19) b rfl dX8_first_83 h rfl (by decide) (by decide)

set_option maxHeartbeats 4000000 in
set_option maxRecDepth 100000 in
theorem zl_X8_first_L54 {p : Program} {l : Launch} {e : Env} {R : Room} {s : State} {m : MethodId} {args : Array Value} {below : List Frame} {meth : Method} {c : Code} {D : va_G} {cy : Nat → ClassId} {T0 tB tE : Nat} {A : Nat → Prop} {a : Nat → Nat} {rw : Nat → Option Nat} (hrw : ∀ i, i < 6 → rw i = some (a (12 + 2 * i))) {post : Int32 → KS → Prop} {k90 : KS → Nat → Int32 → Int32 → Prop} (b : Bz p R s m args meth c D cy T0 tB tE A 5 cX8_first RX8 (some .int) "first" 5 122 0 0) (hk90 : ∀ (S : KS) (x2 : Nat) (x3 : Int32) (x4 : Int32), k90 S x2 x3 x4 → Z p l e R s m args below meth c D A 5 (MQ below (QI D (U := KS) post (kw cy a rw) A) args s 0 0 A) 0 0 (kw cy a rw S) [(0, .ref (a 38)), (2, .ref x2), (3, .int x3), (4, .int x4)] 90 []) : ∀ (n : Nat) (S : KS) (x2 : Nat) (x3 : Int32) (x4 : Int32), lpn (w_X8_first_F54 cy tE post k90) (fun _ _ _ _ => False) n S x2 x3 x4 → Z p l e R s m args below meth c D A 5 (MQ below (QI D (U := KS) post (kw cy a rw) A) args s 0 0 A) 0 0 (kw cy a rw S) [(0, .ref (a 38)), (2, .ref x2), (3, .int x3), (4, .int x4)] 54 [] := by
  intro n
  induction n with
  | zero => intro _ _ _ _ h; exact h.elim
  | succ n ih => intro S x2 x3 x4 h; exact z_X8_first_F54 hrw b hk90 ih S x2 x3 x4 h

def w_X8_first_B90 (cy : Nat → ClassId) (tE : Nat) (post : Int32 → KS → Prop) (k46 : KS → Nat → Int32 → Int32 → Prop) (k105 : KS → Prop) (S : KS) (x2 : Nat) (x3 : Int32) (x4 : Int32) : Prop :=
  w_X8_grow cy tE S (fun r20 S21 => ((r20.toInt ≠ 0 → k46 S21 x2 x3 (x4 + 1)) ∧ (r20.toInt = 0 → post (-1) S21)))

set_option maxHeartbeats 4000000 in
set_option maxRecDepth 100000 in
theorem z_X8_first_B90 {p : Program} {l : Launch} {e : Env} {R : Room} {s : State} {m : MethodId} {args : Array Value} {below : List Frame} {meth : Method} {c : Code} {D : va_G} {cy : Nat → ClassId} {T0 tB tE : Nat} {A : Nat → Prop} {a : Nat → Nat} {rw : Nat → Option Nat} (hrw : ∀ i, i < 6 → rw i = some (a (12 + 2 * i))) {post : Int32 → KS → Prop} {k46 : KS → Nat → Int32 → Int32 → Prop} {k105 : KS → Prop} (b : Bz p R s m args meth c D cy T0 tB tE A 5 cX8_first RX8 (some .int) "first" 5 122 0 0) (hk46 : ∀ (S : KS) (x2 : Nat) (x3 : Int32) (x4 : Int32), k46 S x2 x3 x4 → Z p l e R s m args below meth c D A 5 (MQ below (QI D (U := KS) post (kw cy a rw) A) args s 0 0 A) 0 0 (kw cy a rw S) [(0, .ref (a 38)), (2, .ref x2), (3, .int x3), (4, .int x4)] 46 []) (hk105 : ∀ (S : KS), k105 S → Z p l e R s m args below meth c D A 5 (MQ below (QI D (U := KS) post (kw cy a rw) A) args s 0 0 A) 0 0 (kw cy a rw S) [] 105 []) (S : KS) (x2 : Nat) (x3 : Int32) (x4 : Int32) (h : w_X8_first_B90 cy tE post k46 k105 S x2 x3 x4) : Z p l e R s m args below meth c D A 5 (MQ below (QI D (U := KS) post (kw cy a rw) A) args s 0 0 A) 0 0 (kw cy a rw S) [(0, .ref (a 38)), (2, .ref x2), (3, .int x3), (4, .int x4)] 90 [] := by
  unfold w_X8_first_B90 at h
  refine z_aload_n b dX8_first_90 rfl rfl ?_
  refine z_calli b (z_runV (q0 := 38) (As := []) (st := []) b (k_X8_grow hrw S _ h) cf_X8_grow (kw_38 cy a rw S) rfl wm_X8_133 wi_X8_grow ws_X8_grow dX8_first_91 rfl (Nat.le_of_ble_eq_true rfl) ⟨by decide, by decide, Nat.le_of_ble_eq_true rfl, Nat.le_of_ble_eq_true rfl⟩) (fun r20 S21 h => ?_)
  refine y_if_ne (tgt := 99) (xl := r20.toInt) b rfl dX8_first_94 (by decide) (fun c1 => ?_) (fun c1 => ?_)
  · replace h := h.1 c1
    refine z_iinc (k9 := 3) (v := (x4 + 1)) (lv' := [(4, .int (x4 + 1)), (0, .ref (a 38)), (2, .ref x2), (3, .int x3)]) b dX8_first_99 rfl rfl (by decide) rfl ?_
    refine z_goto (tgt := 46) b dX8_first_102 (by decide) ?_
    refine z_lv0 (lv' := [(0, .ref (a 38)), (2, .ref x2), (3, .int x3), (4, .int (x4 + 1))]) [1, 2, 3, 0] rfl ?_
    exact hk46 _ _ _ _ h
  · replace h := h.2 c1
    refine z_iconst (v := (-1)) b dX8_first_97 (by decide) ?_
    exact z_iret (u := S21) b rfl dX8_first_98 h rfl (by decide) (by decide)

def w_X8_first_F46 (cy : Nat → ClassId) (tE : Nat) (post : Int32 → KS → Prop) (k105 : KS → Prop) (k46 : KS → Nat → Int32 → Int32 → Prop) (S : KS) (x2 : Nat) (x3 : Int32) (x4 : Int32) : Prop :=
  ((400 < x4.toInt → k105 S) ∧ (x4.toInt ≤ 400 → ∃ n, lpn (w_X8_first_F54 cy tE post (w_X8_first_B90 cy tE post k46 k105)) (fun _ _ _ _ => False) n S x2 x3 x4))

set_option maxHeartbeats 4000000 in
set_option maxRecDepth 100000 in
theorem z_X8_first_F46 {p : Program} {l : Launch} {e : Env} {R : Room} {s : State} {m : MethodId} {args : Array Value} {below : List Frame} {meth : Method} {c : Code} {D : va_G} {cy : Nat → ClassId} {T0 tB tE : Nat} {A : Nat → Prop} {a : Nat → Nat} {rw : Nat → Option Nat} (hrw : ∀ i, i < 6 → rw i = some (a (12 + 2 * i))) {post : Int32 → KS → Prop} {k105 : KS → Prop} {k46 : KS → Nat → Int32 → Int32 → Prop} (b : Bz p R s m args meth c D cy T0 tB tE A 5 cX8_first RX8 (some .int) "first" 5 122 0 0) (hk105 : ∀ (S : KS), k105 S → Z p l e R s m args below meth c D A 5 (MQ below (QI D (U := KS) post (kw cy a rw) A) args s 0 0 A) 0 0 (kw cy a rw S) [] 105 []) (hk46 : ∀ (S : KS) (x2 : Nat) (x3 : Int32) (x4 : Int32), k46 S x2 x3 x4 → Z p l e R s m args below meth c D A 5 (MQ below (QI D (U := KS) post (kw cy a rw) A) args s 0 0 A) 0 0 (kw cy a rw S) [(0, .ref (a 38)), (2, .ref x2), (3, .int x3), (4, .int x4)] 46 []) (S : KS) (x2 : Nat) (x3 : Int32) (x4 : Int32) (h : w_X8_first_F46 cy tE post k105 k46 S x2 x3 x4) : Z p l e R s m args below meth c D A 5 (MQ below (QI D (U := KS) post (kw cy a rw) A) args s 0 0 A) 0 0 (kw cy a rw S) [(0, .ref (a 38)), (2, .ref x2), (3, .int x3), (4, .int x4)] 46 [] := by
  unfold w_X8_first_F46 at h
  refine z_iload b dX8_first_46 rfl ?_
  refine z_sipush (v := 400) b dX8_first_48 (by decide) ?_
  refine y_icmp_gt (tgt := 105) (xl := x4.toInt) (yl := 400) b rfl (by decide) dX8_first_51 (by decide) (fun c1 => ?_) (fun c1 => ?_)
  · replace h := h.1 c1
    refine z_lv0 (lv' := []) [] rfl ?_
    exact hk105 _ h
  · replace h := h.2 c1
    obtain ⟨n, h⟩ := h
    exact zl_X8_first_L54 hrw b (fun S x2 x3 x4 h => z_X8_first_B90 hrw b hk46 hk105 _ _ _ _ h) n _ _ _ _ h

set_option maxHeartbeats 4000000 in
set_option maxRecDepth 100000 in
theorem zl_X8_first_L46 {p : Program} {l : Launch} {e : Env} {R : Room} {s : State} {m : MethodId} {args : Array Value} {below : List Frame} {meth : Method} {c : Code} {D : va_G} {cy : Nat → ClassId} {T0 tB tE : Nat} {A : Nat → Prop} {a : Nat → Nat} {rw : Nat → Option Nat} (hrw : ∀ i, i < 6 → rw i = some (a (12 + 2 * i))) {post : Int32 → KS → Prop} {k105 : KS → Prop} (b : Bz p R s m args meth c D cy T0 tB tE A 5 cX8_first RX8 (some .int) "first" 5 122 0 0) (hk105 : ∀ (S : KS), k105 S → Z p l e R s m args below meth c D A 5 (MQ below (QI D (U := KS) post (kw cy a rw) A) args s 0 0 A) 0 0 (kw cy a rw S) [] 105 []) : ∀ (n : Nat) (S : KS) (x2 : Nat) (x3 : Int32) (x4 : Int32), lpn (w_X8_first_F46 cy tE post k105) (fun _ _ _ _ => False) n S x2 x3 x4 → Z p l e R s m args below meth c D A 5 (MQ below (QI D (U := KS) post (kw cy a rw) A) args s 0 0 A) 0 0 (kw cy a rw S) [(0, .ref (a 38)), (2, .ref x2), (3, .int x3), (4, .int x4)] 46 [] := by
  intro n
  induction n with
  | zero => intro _ _ _ _ h; exact h.elim
  | succ n ih => intro S x2 x3 x4 h; exact z_X8_first_F46 hrw b hk105 ih S x2 x3 x4 h

def w_X8_first_B105 (cy : Nat → ClassId) (tE : Nat) (post : Int32 → KS → Prop) (S : KS)  : Prop :=
  post (-1) S

set_option maxHeartbeats 4000000 in
set_option maxRecDepth 100000 in
theorem z_X8_first_B105 {p : Program} {l : Launch} {e : Env} {R : Room} {s : State} {m : MethodId} {args : Array Value} {below : List Frame} {meth : Method} {c : Code} {D : va_G} {cy : Nat → ClassId} {T0 tB tE : Nat} {A : Nat → Prop} {a : Nat → Nat} {rw : Nat → Option Nat} (hrw : ∀ i, i < 6 → rw i = some (a (12 + 2 * i))) {post : Int32 → KS → Prop} (b : Bz p R s m args meth c D cy T0 tB tE A 5 cX8_first RX8 (some .int) "first" 5 122 0 0) (S : KS)  (h : w_X8_first_B105 cy tE post S ) : Z p l e R s m args below meth c D A 5 (MQ below (QI D (U := KS) post (kw cy a rw) A) args s 0 0 A) 0 0 (kw cy a rw S) [] 105 [] := by
  unfold w_X8_first_B105 at h
  refine z_iconst (v := (-1)) b dX8_first_105 (by decide) ?_
  exact z_iret (u := S) b rfl dX8_first_106 h rfl (by decide) (by decide)

def w_X8_first (cy : Nat → ClassId) (tE : Nat) (S : KS) (p0 : Int32) (post : Int32 → KS → Prop) : Prop :=
  ((p0.toInt < 0 → w_X8_first_B21 cy tE post S) ∧ (0 ≤ p0.toInt → ∃ (i1 : Nat) (f2 : List Value), S.2.2.2[i1]? = some ((S.2.1 1), .inr (0, f2)) ∧ w_Jx4a65c_size_8abf5 cy tE S (S.2.1 1) (fun r4 S5 => ((p0.toInt < r4.toInt → ∃ (i6 : Nat) (f7 : List Value), S5.2.2.2[i6]? = some ((S5.2.1 1), .inr (0, f7)) ∧ w_Jx4a65c_get_915e3 cy tE S5 (S5.2.1 1) p0 (fun r9 S10 => ∃ q11 : Nat, r9 = some q11 ∧ ∃ (i13 : Nat) (f14 : List Value), S10.2.2.2[i13]? = some (q11, .inr (2, f14)) ∧ ∃ n, lpn (w_X8_first_F46 cy tE post (w_X8_first_B105 cy tE post)) (fun _ _ _ _ => False) n S10 q11 0 0)) ∧ (r4.toInt ≤ p0.toInt → w_X8_first_B21 cy tE post S5)))))

set_option maxHeartbeats 4000000 in
set_option maxRecDepth 100000 in
theorem k_X8_first {l : Launch} {D : va_G} {cy : Nat → ClassId} {T0 tB tE : Nat} {a : Nat → Nat} {rw : Nat → Option Nat} (hrw : ∀ i, i < 6 → rw i = some (a (12 + 2 * i))) (S : KS) (p0 : Int32) (post : Int32 → KS → Prop) (h : w_X8_first cy tE S p0 post) : Ct l D cy T0 tB tE yX8_first cX8_first 5 (some .int) 5 122 0 0 (kw cy a rw S) [.ref (a 38), .int p0] (QI D (U := KS) post (kw cy a rw)) := by
  refine Ct.ofZ RX8 "first" [(0, .ref (a 38)), (1, .int p0)] rfl rfl rfl rfl (Nat.le_of_ble_eq_true rfl) ?_
  intro p e R s m args below meth c A b
  unfold w_X8_first at h
  refine z_iload_n b dX8_first_0 rfl rfl ?_
  refine y_if_lt (tgt := 21) (xl := p0.toInt) b rfl dX8_first_1 (by decide) (fun c1 => ?_) (fun c1 => ?_)
  · replace h := h.1 c1
    refine z_lv0 (lv' := []) [] rfl ?_
    exact z_X8_first_B21 hrw b _ h
  · replace h := h.2 c1
    refine z_iload_n b dX8_first_4 rfl rfl ?_
    refine z_aload_n b dX8_first_5 rfl rfl ?_
    refine z_get (q0 := 38) (k9 := 0) (v := .ref (a 35)) b (kw_38 cy a rw S) rfl in_X8 (by decide) wf_X8_70 rfl dX8_first_6 ?_
    refine z_get (q0 := 35) (k9 := 0) (v := .ref (a 33)) b (kw_35 cy a rw S) rfl in_X2 (by decide) wf_X8_101 rfl dX8_first_9 ?_
    refine z_get (q0 := 33) (k9 := 1) (v := .ref (S.2.1 1)) b (kw_33 cy a rw S) rfl in_X4 (by decide) wf_X8_137 rfl dX8_first_12 ?_
    obtain ⟨i1, f2, g3, h⟩ := h
    refine z_calli b (z_runV (q0 := 47 + i1) (As := []) (st := [.int p0]) b (k_Jx4a65c_size_8abf5 hrw S (S.2.1 1) _ h) cf_Jx4a65c_size_8abf5 (kw_dyn cy a rw S g3) rfl wm_X8_141 wi_Jx4a65c_size_8abf5 ws_Jx4a65c_size_8abf5 dX8_first_15 rfl (Nat.le_of_ble_eq_true rfl) ⟨by decide, by decide, Nat.le_of_ble_eq_true rfl, Nat.le_of_ble_eq_true rfl⟩) (fun r4 S5 h => ?_)
    refine y_icmp_lt (tgt := 23) (xl := p0.toInt) (yl := r4.toInt) b rfl rfl dX8_first_18 (by decide) (fun c1 => ?_) (fun c1 => ?_)
    · replace h := h.1 c1
      refine z_aload_n b dX8_first_23 rfl rfl ?_
      refine z_get (q0 := 38) (k9 := 0) (v := .ref (a 35)) b (kw_38 cy a rw S5) rfl in_X8 (by decide) wf_X8_70 rfl dX8_first_24 ?_
      refine z_get (q0 := 35) (k9 := 0) (v := .ref (a 33)) b (kw_35 cy a rw S5) rfl in_X2 (by decide) wf_X8_101 rfl dX8_first_27 ?_
      refine z_get (q0 := 33) (k9 := 1) (v := .ref (S5.2.1 1)) b (kw_33 cy a rw S5) rfl in_X4 (by decide) wf_X8_137 rfl dX8_first_30 ?_
      refine z_iload_n b dX8_first_33 rfl rfl ?_
      obtain ⟨i6, f7, g8, h⟩ := h
      refine z_callq b (z_runV (q0 := 47 + i6) (As := [.int p0]) (st := []) b (k_Jx4a65c_get_915e3 hrw S5 (S5.2.1 1) p0 _ h) cf_Jx4a65c_get_915e3 (kw_dyn cy a rw S5 g8) rfl wm_X8_147 wi_Jx4a65c_get_915e3 ws_Jx4a65c_get_915e3 dX8_first_34 rfl (Nat.le_of_ble_eq_true rfl) ⟨by decide, by decide, Nat.le_of_ble_eq_true rfl, Nat.le_of_ble_eq_true rfl⟩) (fun r9 S10 h => ?_)
      obtain ⟨q11, g12, h⟩ := h
      subst g12
      obtain ⟨i13, f14, g15, h⟩ := h
      refine z_cast (q0 := 47 + i13) (ci := 2) b wk_X8_151 (kw_dyn cy a rw S10 g15) rfl dX8_first_37 ?_
      refine z_astore_n (lv' := [(2, .ref q11), (0, .ref (a 38)), (1, .int p0)]) b dX8_first_40 rfl (by decide) rfl ?_
      refine z_iconst (v := 0) b dX8_first_41 (by decide) ?_
      refine z_istore_n (lv' := [(3, .int 0), (2, .ref q11), (0, .ref (a 38)), (1, .int p0)]) b dX8_first_42 rfl (by decide) rfl ?_
      refine z_iconst (v := 0) b dX8_first_43 (by decide) ?_
      refine z_istore (lv' := [(4, .int 0), (3, .int 0), (2, .ref q11), (0, .ref (a 38)), (1, .int p0)]) b dX8_first_44 (by decide) rfl ?_
      refine z_lv0 (lv' := [(0, .ref (a 38)), (2, .ref q11), (3, .int 0), (4, .int 0)]) [3, 2, 1, 0] rfl ?_
      obtain ⟨n, h⟩ := h
      exact zl_X8_first_L46 hrw b (fun S h => z_X8_first_B105 hrw b _ h) n _ _ _ _ h
    · replace h := h.2 c1
      refine z_lv0 (lv' := []) [] rfl ?_
      exact z_X8_first_B21 hrw b _ h

def w_X11_hasHole_B42 (cy : Nat → ClassId) (tE : Nat) (post : Int32 → KS → Prop) (S : KS) (y0 : Int32) : Prop :=
  post y0 S

set_option maxHeartbeats 4000000 in
set_option maxRecDepth 100000 in
theorem z_X11_hasHole_B42 {p : Program} {l : Launch} {e : Env} {R : Room} {s : State} {m : MethodId} {args : Array Value} {below : List Frame} {meth : Method} {c : Code} {D : va_G} {cy : Nat → ClassId} {T0 tB tE : Nat} {A : Nat → Prop} {a : Nat → Nat} {rw : Nat → Option Nat} (hrw : ∀ i, i < 6 → rw i = some (a (12 + 2 * i))) {post : Int32 → KS → Prop} (b : Bz p R s m args meth c D cy T0 tB tE A 4 cX11_hasHole RX11 (some .int) "hasHole" 6 146 0 0) (S : KS) (y0 : Int32) (h : w_X11_hasHole_B42 cy tE post S y0) : Z p l e R s m args below meth c D A 4 (MQ below (QI D (U := KS) post (kw cy a rw) A) args s 0 0 A) 0 0 (kw cy a rw S) [] 42 [.int y0] := by
  unfold w_X11_hasHole_B42 at h
  exact z_iret (u := S) b rfl dX11_hasHole_42 h rfl (by decide) (by decide)

def w_X11_hasHole (cy : Nat → ClassId) (tE : Nat) (S : KS) (p0 : Int32) (p1 : Int32) (p2 : Int32) (post : Int32 → KS → Prop) : Prop :=
  w_X8_begin cy tE S p1 p2 7 0 (fun S2 => w_X8_first cy tE S2 p0 (fun r3 S4 => ((r3.toInt = (-1) → (((fi S4.1 34).toInt = 0 → w_X11_hasHole_B42 cy tE post S4 0) ∧ ((fi S4.1 34).toInt ≠ 0 → w_X11_hasHole_B42 cy tE post S4 (-2)))) ∧ (r3.toInt ≠ (-1) → post 1 S4))))

set_option maxHeartbeats 4000000 in
set_option maxRecDepth 100000 in
theorem k_X11_hasHole {l : Launch} {D : va_G} {cy : Nat → ClassId} {T0 tB tE : Nat} {a : Nat → Nat} {rw : Nat → Option Nat} (hrw : ∀ i, i < 6 → rw i = some (a (12 + 2 * i))) (S : KS) (p0 : Int32) (p1 : Int32) (p2 : Int32) (post : Int32 → KS → Prop) (h : w_X11_hasHole cy tE S p0 p1 p2 post) : Ct l D cy T0 tB tE yX11_hasHole cX11_hasHole 4 (some .int) 6 146 0 0 (kw cy a rw S) [.ref (a 0), .int p0, .int p1, .int p2] (QI D (U := KS) post (kw cy a rw)) := by
  refine Ct.ofZ RX11 "hasHole" [(0, .ref (a 0)), (1, .int p0), (2, .int p1), (3, .int p2)] rfl rfl rfl rfl (Nat.le_of_ble_eq_true rfl) ?_
  intro p e R s m args below meth c A b
  unfold w_X11_hasHole at h
  refine z_aload_n b dX11_hasHole_0 rfl rfl ?_
  refine z_get (q0 := 0) (k9 := 6) (v := .ref (a 38)) b (kw_0 cy a rw S) rfl in_X11 (by decide) wf_X11_52 rfl dX11_hasHole_1 ?_
  refine z_iload_n b dX11_hasHole_4 rfl rfl ?_
  refine z_iload_n b dX11_hasHole_5 rfl rfl ?_
  refine z_bipush (v := 7) b dX11_hasHole_6 (by decide) ?_
  refine z_iconst (v := 0) b dX11_hasHole_8 (by decide) ?_
  refine z_callv b (z_runV (q0 := 38) (As := [.int p1, .int p2, .int 7, .int 0]) (st := []) b (k_X8_begin hrw S p1 p2 7 0 _ h) cf_X8_begin (kw_38 cy a rw S) rfl wm_X11_206 wi_X8_begin ws_X8_begin dX11_hasHole_9 rfl (Nat.le_of_ble_eq_true rfl) ⟨by decide, by decide, Nat.le_of_ble_eq_true rfl, Nat.le_of_ble_eq_true rfl⟩) (fun S2 h => ?_)
  refine z_aload_n b dX11_hasHole_12 rfl rfl ?_
  refine z_get (q0 := 0) (k9 := 6) (v := .ref (a 38)) b (kw_0 cy a rw S2) rfl in_X11 (by decide) wf_X11_52 rfl dX11_hasHole_13 ?_
  refine z_iload_n b dX11_hasHole_16 rfl rfl ?_
  refine z_calli b (z_runV (q0 := 38) (As := [.int p0]) (st := []) b (k_X8_first hrw S2 p0 _ h) cf_X8_first (kw_38 cy a rw S2) rfl wm_X11_210 wi_X8_first ws_X8_first dX11_hasHole_17 rfl (Nat.le_of_ble_eq_true rfl) ⟨by decide, by decide, Nat.le_of_ble_eq_true rfl, Nat.le_of_ble_eq_true rfl⟩) (fun r3 S4 h => ?_)
  refine z_iconst (v := (-1)) b dX11_hasHole_20 (by decide) ?_
  refine y_icmp_eq (tgt := 26) (xl := r3.toInt) (yl := (-1)) b rfl (by decide) dX11_hasHole_21 (by decide) (fun c1 => ?_) (fun c1 => ?_)
  · replace h := h.1 c1
    refine z_aload_n b dX11_hasHole_26 rfl rfl ?_
    refine z_get (q0 := 0) (k9 := 6) (v := .ref (a 38)) b (kw_0 cy a rw S4) rfl in_X11 (by decide) wf_X11_52 rfl dX11_hasHole_27 ?_
    refine z_get (q0 := 38) (k9 := 18) (v := .int (fi S4.1 34)) b (kw_38 cy a rw S4) rfl in_X8 (by decide) wf_X11_214 rfl dX11_hasHole_30 ?_
    refine y_if_eq (tgt := 41) (xl := (fi S4.1 34).toInt) b rfl dX11_hasHole_33 (by decide) (fun c1 => ?_) (fun c1 => ?_)
    · replace h := h.1 c1
      refine z_iconst (v := 0) b dX11_hasHole_41 (by decide) ?_
      refine z_lv0 (lv' := []) [] rfl ?_
      exact z_X11_hasHole_B42 hrw b _ _ h
    · replace h := h.2 c1
      refine z_bipush (v := (-2)) b dX11_hasHole_36 (by decide) ?_
      refine z_goto (tgt := 42) b dX11_hasHole_38 (by decide) ?_
      refine z_lv0 (lv' := []) [] rfl ?_
      exact z_X11_hasHole_B42 hrw b _ _ h
  · replace h := h.2 c1
    refine z_iconst (v := 1) b dX11_hasHole_24 (by decide) ?_
    exact z_iret (u := S4) b rfl dX11_hasHole_25 h rfl (by decide) (by decide)

def w_X11_debt_B17 (cy : Nat → ClassId) (tE : Nat) (post : Int32 → KS → Prop) (S : KS)  : Prop :=
  post 0 S

set_option maxHeartbeats 4000000 in
set_option maxRecDepth 100000 in
theorem z_X11_debt_B17 {p : Program} {l : Launch} {e : Env} {R : Room} {s : State} {m : MethodId} {args : Array Value} {below : List Frame} {meth : Method} {c : Code} {D : va_G} {cy : Nat → ClassId} {T0 tB tE : Nat} {A : Nat → Prop} {a : Nat → Nat} {rw : Nat → Option Nat} (hrw : ∀ i, i < 6 → rw i = some (a (12 + 2 * i))) {post : Int32 → KS → Prop} (b : Bz p R s m args meth c D cy T0 tB tE A 4 cX11_debt RX11 (some .boolean) "debt" 2 41 0 0) (S : KS)  (h : w_X11_debt_B17 cy tE post S ) : Z p l e R s m args below meth c D A 4 (MQ below (QI D (U := KS) post (kw cy a rw) A) args s 0 0 A) 0 0 (kw cy a rw S) [] 17 [] := by
  unfold w_X11_debt_B17 at h
  refine z_iconst (v := 0) b dX11_debt_17 (by decide) ?_
  exact z_zret (u := S) b rfl (by decide) dX11_debt_18 h rfl (by decide) (by decide)

def w_X11_debt (cy : Nat → ClassId) (tE : Nat) (S : KS) (p0 : Int32) (p1 : Int32) (p2 : Int32) (post : Int32 → KS → Prop) : Prop :=
  w_X11_arePair cy tE S p0 p1 (fun r1 S2 => ((r1.toInt = 0 → w_X11_debt_B17 cy tE post S2) ∧ (r1.toInt ≠ 0 → w_X11_isWithin cy tE S2 p2 7 (fun r3 S4 => ((r3.toInt ≠ 0 → w_X9_set cy tE S4 0 (((10 : Int32) + ((3 : Int32) * p0)) + p1) p2 (fun S6 => w_X8_forget cy tE S6 (fun S8 => post 1 S8))) ∧ (r3.toInt = 0 → w_X11_debt_B17 cy tE post S4))))))

set_option maxHeartbeats 4000000 in
set_option maxRecDepth 100000 in
theorem k_X11_debt {l : Launch} {D : va_G} {cy : Nat → ClassId} {T0 tB tE : Nat} {a : Nat → Nat} {rw : Nat → Option Nat} (hrw : ∀ i, i < 6 → rw i = some (a (12 + 2 * i))) (S : KS) (p0 : Int32) (p1 : Int32) (p2 : Int32) (post : Int32 → KS → Prop) (h : w_X11_debt cy tE S p0 p1 p2 post) : Ct l D cy T0 tB tE yX11_debt cX11_debt 4 (some .boolean) 2 41 0 0 (kw cy a rw S) [.ref (a 0), .int p0, .int p1, .int p2] (QI D (U := KS) post (kw cy a rw)) := by
  refine Ct.ofZ RX11 "debt" [(0, .ref (a 0)), (1, .int p0), (2, .int p1), (3, .int p2)] rfl rfl rfl rfl (Nat.le_of_ble_eq_true rfl) ?_
  intro p e R s m args below meth c A b
  unfold w_X11_debt at h
  refine z_iload_n b dX11_debt_0 rfl rfl ?_
  refine z_iload_n b dX11_debt_1 rfl rfl ?_
  refine z_calli b (z_runS (As := [.int p0, .int p1]) (st := []) b (k_X11_arePair hrw S p0 p1 _ h) cf_X11_arePair wm_X11_84 ws_X11_arePair dX11_debt_2 rfl (Nat.le_of_ble_eq_true rfl) ⟨by decide, by decide, Nat.le_of_ble_eq_true rfl, Nat.le_of_ble_eq_true rfl⟩) (fun r1 S2 h => ?_)
  refine y_if_eq (tgt := 17) (xl := r1.toInt) b rfl dX11_debt_5 (by decide) (fun c1 => ?_) (fun c1 => ?_)
  · replace h := h.1 c1
    refine z_lv0 (lv' := []) [] rfl ?_
    exact z_X11_debt_B17 hrw b _ h
  · replace h := h.2 c1
    refine z_iload_n b dX11_debt_8 rfl rfl ?_
    refine z_bipush (v := 7) b dX11_debt_9 (by decide) ?_
    refine z_calli b (z_runS (As := [.int p2, .int 7]) (st := []) b (k_X11_isWithin hrw S2 p2 7 _ h) cf_X11_isWithin wm_X11_73 ws_X11_isWithin dX11_debt_11 rfl (Nat.le_of_ble_eq_true rfl) ⟨by decide, by decide, Nat.le_of_ble_eq_true rfl, Nat.le_of_ble_eq_true rfl⟩) (fun r3 S4 h => ?_)
    refine y_if_ne (tgt := 19) (xl := r3.toInt) b rfl dX11_debt_14 (by decide) (fun c1 => ?_) (fun c1 => ?_)
    · replace h := h.1 c1
      refine z_aload_n b dX11_debt_19 rfl rfl ?_
      refine z_get (q0 := 0) (k9 := 4) (v := .ref (a 2)) b (kw_0 cy a rw S4) rfl in_X11 (by decide) wf_X11_34 rfl dX11_debt_20 ?_
      refine z_bipush (v := 10) b dX11_debt_23 (by decide) ?_
      refine z_iconst (v := 3) b dX11_debt_25 (by decide) ?_
      refine z_iload_n b dX11_debt_26 rfl rfl ?_
      refine z_imul b dX11_debt_27 rfl ?_
      refine z_iadd b dX11_debt_28 rfl ?_
      refine z_iload_n b dX11_debt_29 rfl rfl ?_
      refine z_iadd b dX11_debt_30 rfl ?_
      refine z_iload_n b dX11_debt_31 rfl rfl ?_
      refine z_callv b (z_runV (q0 := 2) (As := [.int (((10 : Int32) + ((3 : Int32) * p0)) + p1), .int p2]) (st := []) b (k_X9_set hrw S4 0 (((10 : Int32) + ((3 : Int32) * p0)) + p1) p2 _ h) cf_X9_set (kw_2 cy a rw S4) rfl wm_X11_77 wi_X9_set ws_X9_set dX11_debt_32 rfl (Nat.le_of_ble_eq_true rfl) ⟨by decide, by decide, Nat.le_of_ble_eq_true rfl, Nat.le_of_ble_eq_true rfl⟩) (fun S6 h => ?_)
      refine z_aload_n b dX11_debt_35 rfl rfl ?_
      refine z_get (q0 := 0) (k9 := 6) (v := .ref (a 38)) b (kw_0 cy a rw S6) rfl in_X11 (by decide) wf_X11_52 rfl dX11_debt_36 ?_
      refine z_callv b (z_runV (q0 := 38) (As := []) (st := []) b (k_X8_forget hrw S6 _ h) cf_X8_forget (kw_38 cy a rw S6) rfl wm_X11_81 wi_X8_forget ws_X8_forget dX11_debt_39 rfl (Nat.le_of_ble_eq_true rfl) ⟨by decide, by decide, Nat.le_of_ble_eq_true rfl, Nat.le_of_ble_eq_true rfl⟩) (fun S8 h => ?_)
      refine z_iconst (v := 1) b dX11_debt_42 (by decide) ?_
      exact z_zret (u := S8) b rfl (by decide) dX11_debt_43 h rfl (by decide) (by decide)
    · replace h := h.2 c1
      refine z_lv0 (lv' := []) [] rfl ?_
      exact z_X11_debt_B17 hrw b _ h

def w_X11_feedFour_B45 (cy : Nat → ClassId) (tE : Nat) (post : KS → Prop) (k3 : KS → Int32 → Int32 → Prop) (k51 : KS → Prop) (S : KS) (x1 : Int32) (x2 : Int32) : Prop :=
  k3 S x1 (x2 + (-8))

set_option maxHeartbeats 4000000 in
set_option maxRecDepth 100000 in
theorem z_X11_feedFour_B45 {p : Program} {l : Launch} {e : Env} {R : Room} {s : State} {m : MethodId} {args : Array Value} {below : List Frame} {meth : Method} {c : Code} {D : va_G} {cy : Nat → ClassId} {T0 tB tE : Nat} {A : Nat → Prop} {a : Nat → Nat} {rw : Nat → Option Nat} (hrw : ∀ i, i < 6 → rw i = some (a (12 + 2 * i))) {post : KS → Prop} {k3 : KS → Int32 → Int32 → Prop} {k51 : KS → Prop} (b : Bz p R s m args meth c D cy T0 tB tE A 3 cX11_feedFour RX11 none "feedFour" 0 0 0 0) (hk3 : ∀ (S : KS) (x1 : Int32) (x2 : Int32), k3 S x1 x2 → Z p l e R s m args below meth c D A 3 (MQ below (QV D (U := KS) post (kw cy a rw) A) args s 0 0 A) 0 0 (kw cy a rw S) [(0, .ref (a 0)), (1, .int x1), (2, .int x2)] 3 []) (hk51 : ∀ (S : KS), k51 S → Z p l e R s m args below meth c D A 3 (MQ below (QV D (U := KS) post (kw cy a rw) A) args s 0 0 A) 0 0 (kw cy a rw S) [] 51 []) (S : KS) (x1 : Int32) (x2 : Int32) (h : w_X11_feedFour_B45 cy tE post k3 k51 S x1 x2) : Z p l e R s m args below meth c D A 3 (MQ below (QV D (U := KS) post (kw cy a rw) A) args s 0 0 A) 0 0 (kw cy a rw S) [(0, .ref (a 0)), (1, .int x1), (2, .int x2)] 45 [] := by
  unfold w_X11_feedFour_B45 at h
  refine z_iinc (k9 := 2) (v := (x2 + (-8))) (lv' := [(2, .int (x2 + (-8))), (0, .ref (a 0)), (1, .int x1)]) b dX11_feedFour_45 rfl rfl (by decide) rfl ?_
  refine z_goto (tgt := 3) b dX11_feedFour_48 (by decide) ?_
  refine z_lv0 (lv' := [(0, .ref (a 0)), (1, .int x1), (2, .int (x2 + (-8)))]) [1, 2, 0] rfl ?_
  exact hk3 _ _ _ h

def w_X11_feedFour_F3 (cy : Nat → ClassId) (tE : Nat) (post : KS → Prop) (k51 : KS → Prop) (k3 : KS → Int32 → Int32 → Prop) (S : KS) (x1 : Int32) (x2 : Int32) : Prop :=
  ((x2.toInt < 0 → k51 S) ∧ (0 ≤ x2.toInt → ((700 ≤ (fi S.1 0).toInt → w_X11_feedFour_B45 cy tE post k3 k51 S x1 x2) ∧ ((fi S.1 0).toInt < 700 → (0 ≤ (fi S.1 0).toInt ∧ (fi S.1 0).toInt < 700) ∧ w_X11_feedFour_B45 cy tE post k3 k51 (ksi (ksu S 0 ((fi S.1 0).toNatClampNeg) (((x1).toUInt32 >>> ((x2 : Int32).toUInt32 &&& Int32.toUInt32 31)).toInt32 &&& 255)) 0 ((fi S.1 0) + 1)) x1 x2))))

set_option maxHeartbeats 4000000 in
set_option maxRecDepth 100000 in
theorem z_X11_feedFour_F3 {p : Program} {l : Launch} {e : Env} {R : Room} {s : State} {m : MethodId} {args : Array Value} {below : List Frame} {meth : Method} {c : Code} {D : va_G} {cy : Nat → ClassId} {T0 tB tE : Nat} {A : Nat → Prop} {a : Nat → Nat} {rw : Nat → Option Nat} (hrw : ∀ i, i < 6 → rw i = some (a (12 + 2 * i))) {post : KS → Prop} {k51 : KS → Prop} {k3 : KS → Int32 → Int32 → Prop} (b : Bz p R s m args meth c D cy T0 tB tE A 3 cX11_feedFour RX11 none "feedFour" 0 0 0 0) (hk51 : ∀ (S : KS), k51 S → Z p l e R s m args below meth c D A 3 (MQ below (QV D (U := KS) post (kw cy a rw) A) args s 0 0 A) 0 0 (kw cy a rw S) [] 51 []) (hk3 : ∀ (S : KS) (x1 : Int32) (x2 : Int32), k3 S x1 x2 → Z p l e R s m args below meth c D A 3 (MQ below (QV D (U := KS) post (kw cy a rw) A) args s 0 0 A) 0 0 (kw cy a rw S) [(0, .ref (a 0)), (1, .int x1), (2, .int x2)] 3 []) (S : KS) (x1 : Int32) (x2 : Int32) (h : w_X11_feedFour_F3 cy tE post k51 k3 S x1 x2) : Z p l e R s m args below meth c D A 3 (MQ below (QV D (U := KS) post (kw cy a rw) A) args s 0 0 A) 0 0 (kw cy a rw S) [(0, .ref (a 0)), (1, .int x1), (2, .int x2)] 3 [] := by
  unfold w_X11_feedFour_F3 at h
  refine z_iload_n b dX11_feedFour_3 rfl rfl ?_
  refine y_if_lt (tgt := 51) (xl := x2.toInt) b rfl dX11_feedFour_4 (by decide) (fun c1 => ?_) (fun c1 => ?_)
  · replace h := h.1 c1
    refine z_lv0 (lv' := []) [] rfl ?_
    exact hk51 _ h
  · replace h := h.2 c1
    refine z_aload_n b dX11_feedFour_7 rfl rfl ?_
    refine z_get (q0 := 0) (k9 := 1) (v := .int (fi S.1 0)) b (kw_0 cy a rw S) rfl in_X11 (by decide) wf_X11_13 rfl dX11_feedFour_8 ?_
    refine z_aload_n b dX11_feedFour_11 rfl rfl ?_
    refine z_get (q0 := 0) (k9 := 0) (v := .ref (a 1)) b (kw_0 cy a rw S) rfl in_X11 (by decide) wf_X11_9 rfl dX11_feedFour_12 ?_
    refine z_alen (q0 := 1) (t0 := 0) (v := 700) b (kw_1 cy a rw S) rfl rfl dX11_feedFour_15 ?_
    refine y_icmp_ge (tgt := 45) (xl := (fi S.1 0).toInt) (yl := 700) b rfl (by decide) dX11_feedFour_16 (by decide) (fun c1 => ?_) (fun c1 => ?_)
    · replace h := h.1 c1
      exact z_X11_feedFour_B45 hrw b hk3 hk51 _ _ _ h
    · replace h := h.2 c1
      refine z_aload_n b dX11_feedFour_19 rfl rfl ?_
      refine z_get (q0 := 0) (k9 := 0) (v := .ref (a 1)) b (kw_0 cy a rw S) rfl in_X11 (by decide) wf_X11_9 rfl dX11_feedFour_20 ?_
      refine z_aload_n b dX11_feedFour_23 rfl rfl ?_
      refine z_get (q0 := 0) (k9 := 1) (v := .int (fi S.1 0)) b (kw_0 cy a rw S) rfl in_X11 (by decide) wf_X11_13 rfl dX11_feedFour_24 ?_
      refine z_iload_n b dX11_feedFour_27 rfl rfl ?_
      refine z_iload_n b dX11_feedFour_28 rfl rfl ?_
      refine z_iushr b dX11_feedFour_29 rfl ?_
      refine z_sipush (v := 255) b dX11_feedFour_30 (by decide) ?_
      refine z_iand b dX11_feedFour_33 rfl ?_
      obtain ⟨g1, h⟩ := h
      refine y_iast (q0 := 1) (j := (fi S.1 0).toNatClampNeg) b (kw_1 cy a rw S) (zx_r g1.1 g1.2) dX11_feedFour_34 (kwa_1 cy a rw S ((fi S.1 0).toNatClampNeg) (((x1).toUInt32 >>> ((x2 : Int32).toUInt32 &&& Int32.toUInt32 31)).toInt32 &&& 255)) ?_
      refine z_aload_n b dX11_feedFour_35 rfl rfl ?_
      refine z_dup b dX11_feedFour_36 rfl ?_
      refine z_get (q0 := 0) (k9 := 1) (v := .int (fi S.1 0)) b (kw_0 cy a rw (ksu S 0 ((fi S.1 0).toNatClampNeg) (((x1).toUInt32 >>> ((x2 : Int32).toUInt32 &&& Int32.toUInt32 31)).toInt32 &&& 255))) rfl in_X11 (by decide) wf_X11_13 rfl dX11_feedFour_37 ?_
      refine z_iconst (v := 1) b dX11_feedFour_40 (by decide) ?_
      refine z_iadd b dX11_feedFour_41 rfl ?_
      refine z_put (q0 := 0) (k9 := 1) tyX11 b (kw_0 cy a rw (ksu S 0 ((fi S.1 0).toNatClampNeg) (((x1).toUInt32 >>> ((x2 : Int32).toUInt32 &&& Int32.toUInt32 31)).toInt32 &&& 255))) rfl in_X11 tyX11_ok nmX11 (by decide) wf_X11_13 rfl rfl rfl rfl (Nat.le_of_ble_eq_true rfl) dX11_feedFour_42 (kwp_0_1 cy a rw (ksu S 0 ((fi S.1 0).toNatClampNeg) (((x1).toUInt32 >>> ((x2 : Int32).toUInt32 &&& Int32.toUInt32 31)).toInt32 &&& 255)) ((fi S.1 0) + 1)) ?_
      exact z_X11_feedFour_B45 hrw b hk3 hk51 _ _ _ h

set_option maxHeartbeats 4000000 in
set_option maxRecDepth 100000 in
theorem zl_X11_feedFour_L3 {p : Program} {l : Launch} {e : Env} {R : Room} {s : State} {m : MethodId} {args : Array Value} {below : List Frame} {meth : Method} {c : Code} {D : va_G} {cy : Nat → ClassId} {T0 tB tE : Nat} {A : Nat → Prop} {a : Nat → Nat} {rw : Nat → Option Nat} (hrw : ∀ i, i < 6 → rw i = some (a (12 + 2 * i))) {post : KS → Prop} {k51 : KS → Prop} (b : Bz p R s m args meth c D cy T0 tB tE A 3 cX11_feedFour RX11 none "feedFour" 0 0 0 0) (hk51 : ∀ (S : KS), k51 S → Z p l e R s m args below meth c D A 3 (MQ below (QV D (U := KS) post (kw cy a rw) A) args s 0 0 A) 0 0 (kw cy a rw S) [] 51 []) : ∀ (n : Nat) (S : KS) (x1 : Int32) (x2 : Int32), lpn (w_X11_feedFour_F3 cy tE post k51) (fun _ _ _ => False) n S x1 x2 → Z p l e R s m args below meth c D A 3 (MQ below (QV D (U := KS) post (kw cy a rw) A) args s 0 0 A) 0 0 (kw cy a rw S) [(0, .ref (a 0)), (1, .int x1), (2, .int x2)] 3 [] := by
  intro n
  induction n with
  | zero => intro _ _ _ h; exact h.elim
  | succ n ih => intro S x1 x2 h; exact z_X11_feedFour_F3 hrw b hk51 ih S x1 x2 h

def w_X11_feedFour_B51 (cy : Nat → ClassId) (tE : Nat) (post : KS → Prop) (S : KS)  : Prop :=
  post S

set_option maxHeartbeats 4000000 in
set_option maxRecDepth 100000 in
theorem z_X11_feedFour_B51 {p : Program} {l : Launch} {e : Env} {R : Room} {s : State} {m : MethodId} {args : Array Value} {below : List Frame} {meth : Method} {c : Code} {D : va_G} {cy : Nat → ClassId} {T0 tB tE : Nat} {A : Nat → Prop} {a : Nat → Nat} {rw : Nat → Option Nat} (hrw : ∀ i, i < 6 → rw i = some (a (12 + 2 * i))) {post : KS → Prop} (b : Bz p R s m args meth c D cy T0 tB tE A 3 cX11_feedFour RX11 none "feedFour" 0 0 0 0) (S : KS)  (h : w_X11_feedFour_B51 cy tE post S ) : Z p l e R s m args below meth c D A 3 (MQ below (QV D (U := KS) post (kw cy a rw) A) args s 0 0 A) 0 0 (kw cy a rw S) [] 51 [] := by
  unfold w_X11_feedFour_B51 at h
  exact z_vret (u := S) b rfl dX11_feedFour_51 h rfl (by decide) (by decide)

def w_X11_feedFour (cy : Nat → ClassId) (tE : Nat) (S : KS) (p0 : Int32) (post : KS → Prop) : Prop :=
  ∃ n, lpn (w_X11_feedFour_F3 cy tE post (w_X11_feedFour_B51 cy tE post)) (fun _ _ _ => False) n S p0 24

set_option maxHeartbeats 4000000 in
set_option maxRecDepth 100000 in
theorem k_X11_feedFour {l : Launch} {D : va_G} {cy : Nat → ClassId} {T0 tB tE : Nat} {a : Nat → Nat} {rw : Nat → Option Nat} (hrw : ∀ i, i < 6 → rw i = some (a (12 + 2 * i))) (S : KS) (p0 : Int32) (post : KS → Prop) (h : w_X11_feedFour cy tE S p0 post) : Ct l D cy T0 tB tE yX11_feedFour cX11_feedFour 3 none 0 0 0 0 (kw cy a rw S) [.ref (a 0), .int p0] (QV D (U := KS) post (kw cy a rw)) := by
  refine Ct.ofZ RX11 "feedFour" [(0, .ref (a 0)), (1, .int p0)] rfl rfl rfl rfl (Nat.le_of_ble_eq_true rfl) ?_
  intro p e R s m args below meth c A b
  unfold w_X11_feedFour at h
  refine z_bipush (v := 24) b dX11_feedFour_0 (by decide) ?_
  refine z_istore_n (lv' := [(2, .int 24), (0, .ref (a 0)), (1, .int p0)]) b dX11_feedFour_2 rfl (by decide) rfl ?_
  refine z_lv0 (lv' := [(0, .ref (a 0)), (1, .int p0), (2, .int 24)]) [1, 2, 0] rfl ?_
  obtain ⟨n, h⟩ := h
  exact zl_X11_feedFour_L3 hrw b (fun S h => z_X11_feedFour_B51 hrw b _ h) n _ _ _ h

def w_X11_feed (cy : Nat → ClassId) (tE : Nat) (S : KS) (p0 : Int32) (p1 : Int32) (p2 : Int32) (p3 : Int32) (p4 : Int32) (post : Int32 → KS → Prop) : Prop :=
  ((((fi S.1 0) + 20).toInt ≤ 700 → w_X11_feedFour cy tE S p0 (fun S2 => w_X11_feedFour cy tE S2 p1 (fun S4 => w_X11_feedFour cy tE S4 p2 (fun S6 => w_X11_feedFour cy tE S6 p3 (fun S8 => w_X11_feedFour cy tE S8 p4 (fun S10 => post (fi S10.1 0) S10)))))) ∧ (700 < ((fi S.1 0) + 20).toInt → post (-1) S))

set_option maxHeartbeats 4000000 in
set_option maxRecDepth 100000 in
theorem k_X11_feed {l : Launch} {D : va_G} {cy : Nat → ClassId} {T0 tB tE : Nat} {a : Nat → Nat} {rw : Nat → Option Nat} (hrw : ∀ i, i < 6 → rw i = some (a (12 + 2 * i))) (S : KS) (p0 : Int32) (p1 : Int32) (p2 : Int32) (p3 : Int32) (p4 : Int32) (post : Int32 → KS → Prop) (h : w_X11_feed cy tE S p0 p1 p2 p3 p4 post) : Ct l D cy T0 tB tE yX11_feed cX11_feed 6 (some .int) 1 22 0 0 (kw cy a rw S) [.ref (a 0), .int p0, .int p1, .int p2, .int p3, .int p4] (QI D (U := KS) post (kw cy a rw)) := by
  refine Ct.ofZ RX11 "feed" [(0, .ref (a 0)), (1, .int p0), (2, .int p1), (3, .int p2), (4, .int p3), (5, .int p4)] rfl rfl rfl rfl (Nat.le_of_ble_eq_true rfl) ?_
  intro p e R s m args below meth c A b
  unfold w_X11_feed at h
  refine z_aload_n b dX11_feed_0 rfl rfl ?_
  refine z_get (q0 := 0) (k9 := 1) (v := .int (fi S.1 0)) b (kw_0 cy a rw S) rfl in_X11 (by decide) wf_X11_13 rfl dX11_feed_1 ?_
  refine z_bipush (v := 20) b dX11_feed_4 (by decide) ?_
  refine z_iadd b dX11_feed_6 rfl ?_
  refine z_sipush (v := 700) b dX11_feed_7 (by decide) ?_
  refine y_icmp_le (tgt := 15) (xl := ((fi S.1 0) + 20).toInt) (yl := 700) b rfl (by decide) dX11_feed_10 (by decide) (fun c1 => ?_) (fun c1 => ?_)
  · replace h := h.1 c1
    refine z_aload_n b dX11_feed_15 rfl rfl ?_
    refine z_iload_n b dX11_feed_16 rfl rfl ?_
    refine z_callv b (z_runV (q0 := 0) (As := [.int p0]) (st := []) b (k_X11_feedFour hrw S p0 _ h) cf_X11_feedFour (kw_0 cy a rw S) rfl wm_X11_90 wi_X11_feedFour ws_X11_feedFour dX11_feed_17 rfl (Nat.le_of_ble_eq_true rfl) ⟨by decide, by decide, Nat.le_of_ble_eq_true rfl, Nat.le_of_ble_eq_true rfl⟩) (fun S2 h => ?_)
    refine z_aload_n b dX11_feed_20 rfl rfl ?_
    refine z_iload_n b dX11_feed_21 rfl rfl ?_
    refine z_callv b (z_runV (q0 := 0) (As := [.int p1]) (st := []) b (k_X11_feedFour hrw S2 p1 _ h) cf_X11_feedFour (kw_0 cy a rw S2) rfl wm_X11_90 wi_X11_feedFour ws_X11_feedFour dX11_feed_22 rfl (Nat.le_of_ble_eq_true rfl) ⟨by decide, by decide, Nat.le_of_ble_eq_true rfl, Nat.le_of_ble_eq_true rfl⟩) (fun S4 h => ?_)
    refine z_aload_n b dX11_feed_25 rfl rfl ?_
    refine z_iload_n b dX11_feed_26 rfl rfl ?_
    refine z_callv b (z_runV (q0 := 0) (As := [.int p2]) (st := []) b (k_X11_feedFour hrw S4 p2 _ h) cf_X11_feedFour (kw_0 cy a rw S4) rfl wm_X11_90 wi_X11_feedFour ws_X11_feedFour dX11_feed_27 rfl (Nat.le_of_ble_eq_true rfl) ⟨by decide, by decide, Nat.le_of_ble_eq_true rfl, Nat.le_of_ble_eq_true rfl⟩) (fun S6 h => ?_)
    refine z_aload_n b dX11_feed_30 rfl rfl ?_
    refine z_iload b dX11_feed_31 rfl ?_
    refine z_callv b (z_runV (q0 := 0) (As := [.int p3]) (st := []) b (k_X11_feedFour hrw S6 p3 _ h) cf_X11_feedFour (kw_0 cy a rw S6) rfl wm_X11_90 wi_X11_feedFour ws_X11_feedFour dX11_feed_33 rfl (Nat.le_of_ble_eq_true rfl) ⟨by decide, by decide, Nat.le_of_ble_eq_true rfl, Nat.le_of_ble_eq_true rfl⟩) (fun S8 h => ?_)
    refine z_aload_n b dX11_feed_36 rfl rfl ?_
    refine z_iload b dX11_feed_37 rfl ?_
    refine z_callv b (z_runV (q0 := 0) (As := [.int p4]) (st := []) b (k_X11_feedFour hrw S8 p4 _ h) cf_X11_feedFour (kw_0 cy a rw S8) rfl wm_X11_90 wi_X11_feedFour ws_X11_feedFour dX11_feed_39 rfl (Nat.le_of_ble_eq_true rfl) ⟨by decide, by decide, Nat.le_of_ble_eq_true rfl, Nat.le_of_ble_eq_true rfl⟩) (fun S10 h => ?_)
    refine z_aload_n b dX11_feed_42 rfl rfl ?_
    refine z_get (q0 := 0) (k9 := 1) (v := .int (fi S10.1 0)) b (kw_0 cy a rw S10) rfl in_X11 (by decide) wf_X11_13 rfl dX11_feed_43 ?_
    exact z_iret (u := S10) b rfl dX11_feed_46 h rfl (by decide) (by decide)
  · replace h := h.2 c1
    refine z_iconst (v := (-1)) b dX11_feed_13 (by decide) ?_
    exact z_iret (u := S) b rfl dX11_feed_14 h rfl (by decide) (by decide)

def w_X9_has_B23 (cy : Nat → ClassId) (tE : Nat) (post : Int32 → KS → Prop) (S : KS)  : Prop :=
  post 1 S

set_option maxHeartbeats 4000000 in
set_option maxRecDepth 100000 in
theorem z_X9_has_B23 {p : Program} {l : Launch} {e : Env} {R : Room} {s : State} {m : MethodId} {args : Array Value} {below : List Frame} {meth : Method} {c : Code} {D : va_G} {cy : Nat → ClassId} {T0 tB tE : Nat} {A : Nat → Prop} {a : Nat → Nat} {rw : Nat → Option Nat} (hrw : ∀ i, i < 6 → rw i = some (a (12 + 2 * i))) {post : Int32 → KS → Prop} (b : Bz p R s m args meth c D cy T0 tB tE A 2 cX9_has RX9 (some .boolean) "has" 2 41 0 0) (S : KS)  (h : w_X9_has_B23 cy tE post S ) : Z p l e R s m args below meth c D A 2 (MQ below (QI D (U := KS) post (kw cy a rw) A) args s 0 0 A) 0 0 (kw cy a rw S) [] 23 [] := by
  unfold w_X9_has_B23 at h
  refine z_iconst (v := 1) b dX9_has_23 (by decide) ?_
  exact z_zret (u := S) b rfl (by decide) dX9_has_24 h rfl (by decide) (by decide)

def w_X9_has_B37 (cy : Nat → ClassId) (tE : Nat) (post : Int32 → KS → Prop) (S : KS)  : Prop :=
  post 0 S

set_option maxHeartbeats 4000000 in
set_option maxRecDepth 100000 in
theorem z_X9_has_B37 {p : Program} {l : Launch} {e : Env} {R : Room} {s : State} {m : MethodId} {args : Array Value} {below : List Frame} {meth : Method} {c : Code} {D : va_G} {cy : Nat → ClassId} {T0 tB tE : Nat} {A : Nat → Prop} {a : Nat → Nat} {rw : Nat → Option Nat} (hrw : ∀ i, i < 6 → rw i = some (a (12 + 2 * i))) {post : Int32 → KS → Prop} (b : Bz p R s m args meth c D cy T0 tB tE A 2 cX9_has RX9 (some .boolean) "has" 2 41 0 0) (S : KS)  (h : w_X9_has_B37 cy tE post S ) : Z p l e R s m args below meth c D A 2 (MQ below (QI D (U := KS) post (kw cy a rw) A) args s 0 0 A) 0 0 (kw cy a rw S) [] 37 [] := by
  unfold w_X9_has_B37 at h
  refine z_iconst (v := 0) b dX9_has_37 (by decide) ?_
  exact z_zret (u := S) b rfl (by decide) dX9_has_38 h rfl (by decide) (by decide)

def w_X9_has (cy : Nat → ClassId) (tE : Nat) (S : KS) (p0 : Int32) (post : Int32 → KS → Prop) : Prop :=
  w_X11_isPerson cy tE S p0 (fun r1 S2 => ((r1.toInt ≠ 0 → w_X9_has_B23 cy tE post S2) ∧ (r1.toInt = 0 → w_X11_isThing cy tE S2 (p0 - 40) (fun r3 S4 => ((r3.toInt ≠ 0 → w_X9_has_B23 cy tE post S4) ∧ (r3.toInt = 0 → ((p0.toInt ≠ 50 → ((p0.toInt < 10 → w_X9_has_B37 cy tE post S4) ∧ (10 ≤ p0.toInt → ((p0.toInt < 40 → w_X11_arePair cy tE S4 ((p0 - p0 / 10 * 10) / 3) ((p0 - p0 / 10 * 10) - (p0 - p0 / 10 * 10) / 3 * 3) (fun r5 S6 => (r5 = 0 ∨ r5 = 1) ∧ post r5 S6)) ∧ (40 ≤ p0.toInt → w_X9_has_B37 cy tE post S4))))) ∧ (p0.toInt = 50 → w_X9_has_B23 cy tE post S4))))))))

set_option maxHeartbeats 4000000 in
set_option maxRecDepth 100000 in
theorem k_X9_has {l : Launch} {D : va_G} {cy : Nat → ClassId} {T0 tB tE : Nat} {a : Nat → Nat} {rw : Nat → Option Nat} (hrw : ∀ i, i < 6 → rw i = some (a (12 + 2 * i))) (S : KS) (p0 : Int32) (post : Int32 → KS → Prop) (h : w_X9_has cy tE S p0 post) : Ct l D cy T0 tB tE yX9_has cX9_has 2 (some .boolean) 2 41 0 0 (kw cy a rw S) [.int p0] (QI D (U := KS) post (kw cy a rw)) := by
  refine Ct.ofZ RX9 "has" [(0, .int p0)] rfl rfl rfl rfl (Nat.le_of_ble_eq_true rfl) ?_
  intro p e R s m args below meth c A b
  unfold w_X9_has at h
  refine z_iload_n b dX9_has_0 rfl rfl ?_
  refine z_calli b (z_runSN (As := [.int p0]) (st := []) b (k_X11_isPerson hrw S p0 _ h) cf_X11_isPerson (nw_X9_15) ws_X11_isPerson dX9_has_1 rfl (Nat.le_of_ble_eq_true rfl) ⟨by decide, by decide, Nat.le_of_ble_eq_true rfl, Nat.le_of_ble_eq_true rfl⟩) (fun r1 S2 h => ?_)
  refine y_if_ne (tgt := 23) (xl := r1.toInt) b rfl dX9_has_4 (by decide) (fun c1 => ?_) (fun c1 => ?_)
  · replace h := h.1 c1
    refine z_lv0 (lv' := []) [] rfl ?_
    exact z_X9_has_B23 hrw b _ h
  · replace h := h.2 c1
    refine z_iload_n b dX9_has_7 rfl rfl ?_
    refine z_bipush (v := 40) b dX9_has_8 (by decide) ?_
    refine z_isub b dX9_has_10 rfl ?_
    refine z_calli b (z_runSN (As := [.int (p0 - 40)]) (st := []) b (k_X11_isThing hrw S2 (p0 - 40) _ h) cf_X11_isThing (nw_X9_19) ws_X11_isThing dX9_has_11 rfl (Nat.le_of_ble_eq_true rfl) ⟨by decide, by decide, Nat.le_of_ble_eq_true rfl, Nat.le_of_ble_eq_true rfl⟩) (fun r3 S4 h => ?_)
    refine y_if_ne (tgt := 23) (xl := r3.toInt) b rfl dX9_has_14 (by decide) (fun c1 => ?_) (fun c1 => ?_)
    · replace h := h.1 c1
      refine z_lv0 (lv' := []) [] rfl ?_
      exact z_X9_has_B23 hrw b _ h
    · replace h := h.2 c1
      refine z_iload_n b dX9_has_17 rfl rfl ?_
      refine z_bipush (v := 50) b dX9_has_18 (by decide) ?_
      refine y_icmp_ne (tgt := 25) (xl := p0.toInt) (yl := 50) b rfl (by decide) dX9_has_20 (by decide) (fun c1 => ?_) (fun c1 => ?_)
      · replace h := h.1 c1
        refine z_iload_n b dX9_has_25 rfl rfl ?_
        refine z_bipush (v := 10) b dX9_has_26 (by decide) ?_
        refine y_icmp_lt (tgt := 37) (xl := p0.toInt) (yl := 10) b rfl (by decide) dX9_has_28 (by decide) (fun c1 => ?_) (fun c1 => ?_)
        · replace h := h.1 c1
          refine z_lv0 (lv' := []) [] rfl ?_
          exact z_X9_has_B37 hrw b _ h
        · replace h := h.2 c1
          refine z_iload_n b dX9_has_31 rfl rfl ?_
          refine z_bipush (v := 40) b dX9_has_32 (by decide) ?_
          refine y_icmp_lt (tgt := 39) (xl := p0.toInt) (yl := 40) b rfl (by decide) dX9_has_34 (by decide) (fun c1 => ?_) (fun c1 => ?_)
          · replace h := h.1 c1
            refine z_iload_n b dX9_has_39 rfl rfl ?_
            refine z_bipush (v := 10) b dX9_has_40 (by decide) ?_
            refine z_irem b dX9_has_42 (by decide) rfl ?_
            refine z_istore_n (lv' := [(1, .int (p0 - p0 / 10 * 10)), (0, .int p0)]) b dX9_has_43 rfl (by decide) rfl ?_
            refine z_iload_n b dX9_has_44 rfl rfl ?_
            refine z_iconst (v := 3) b dX9_has_45 (by decide) ?_
            refine z_idiv b dX9_has_46 (by decide) rfl ?_
            refine z_iload_n b dX9_has_47 rfl rfl ?_
            refine z_iconst (v := 3) b dX9_has_48 (by decide) ?_
            refine z_irem b dX9_has_49 (by decide) rfl ?_
            refine z_calli b (z_runSN (As := [.int ((p0 - p0 / 10 * 10) / 3), .int ((p0 - p0 / 10 * 10) - (p0 - p0 / 10 * 10) / 3 * 3)]) (st := []) b (k_X11_arePair hrw S4 ((p0 - p0 / 10 * 10) / 3) ((p0 - p0 / 10 * 10) - (p0 - p0 / 10 * 10) / 3 * 3) _ h) cf_X11_arePair (nw_X9_22) ws_X11_arePair dX9_has_50 rfl (Nat.le_of_ble_eq_true rfl) ⟨by decide, by decide, Nat.le_of_ble_eq_true rfl, Nat.le_of_ble_eq_true rfl⟩) (fun r5 S6 h => ?_)
            obtain ⟨g7, h⟩ := h
            exact z_zret (u := S6) b rfl (z_bool g7) dX9_has_53 h rfl (by decide) (by decide)
          · replace h := h.2 c1
            refine z_lv0 (lv' := []) [] rfl ?_
            exact z_X9_has_B37 hrw b _ h
      · replace h := h.2 c1
        refine z_lv0 (lv' := []) [] rfl ?_
        exact z_X9_has_B23 hrw b _ h

def w_X2_follow_F16 (cy : Nat → ClassId) (tE : Nat) (post : Int32 → KS → Prop) (k74 : KS → Nat → Prop) (k16 : KS → Nat → Int32 → Int32 → Int32 → Prop) (S : KS) (x1 : Nat) (x3 : Int32) (x4 : Int32) (x5 : Int32) : Prop :=
  (x1 < 7) ∧ (((fi S.1 (1 + 2 * x1)).toInt ≤ x5.toInt → k74 S x1) ∧ (x5.toInt < (fi S.1 (1 + 2 * x1)).toInt → (x1 < 7) ∧ w_X7_get cy tE S x1 x5 (fun r5 S6 => w_X2_why cy tE S6 3 r5 x3 x4 (fun r7 S8 => ((r7.toInt = (-1) → w_X9_copy cy tE (ksi S8 22 r7) 3 2 (fun S10 => k16 S10 x1 x3 x4 (x5 + 1))) ∧ (r7.toInt ≠ (-1) → post x5 (ksi S8 22 r7)))))))

set_option maxHeartbeats 4000000 in
set_option maxRecDepth 100000 in
theorem z_X2_follow_F16 {p : Program} {l : Launch} {e : Env} {R : Room} {s : State} {m : MethodId} {args : Array Value} {below : List Frame} {meth : Method} {c : Code} {D : va_G} {cy : Nat → ClassId} {T0 tB tE : Nat} {A : Nat → Prop} {a : Nat → Nat} {rw : Nat → Option Nat} (hrw : ∀ i, i < 6 → rw i = some (a (12 + 2 * i))) {post : Int32 → KS → Prop} {k74 : KS → Nat → Prop} {k16 : KS → Nat → Int32 → Int32 → Int32 → Prop} (b : Bz p R s m args meth c D cy T0 tB tE A 6 cX2_follow RX2 (some .int) "follow" 4 101 0 0) (hk74 : ∀ (S : KS) (x1 : Nat), k74 S x1 → Z p l e R s m args below meth c D A 6 (MQ below (QI D (U := KS) post (kw cy a rw) A) args s 0 0 A) 0 0 (kw cy a rw S) [(1, .ref (a (12 + 2 * x1)))] 74 []) (hk16 : ∀ (S : KS) (x1 : Nat) (x3 : Int32) (x4 : Int32) (x5 : Int32), k16 S x1 x3 x4 x5 → Z p l e R s m args below meth c D A 6 (MQ below (QI D (U := KS) post (kw cy a rw) A) args s 0 0 A) 0 0 (kw cy a rw S) [(0, .ref (a 35)), (1, .ref (a (12 + 2 * x1))), (3, .int x3), (4, .int x4), (5, .int x5)] 16 []) (S : KS) (x1 : Nat) (x3 : Int32) (x4 : Int32) (x5 : Int32) (h : w_X2_follow_F16 cy tE post k74 k16 S x1 x3 x4 x5) : Z p l e R s m args below meth c D A 6 (MQ below (QI D (U := KS) post (kw cy a rw) A) args s 0 0 A) 0 0 (kw cy a rw S) [(0, .ref (a 35)), (1, .ref (a (12 + 2 * x1))), (3, .int x3), (4, .int x4), (5, .int x5)] 16 [] := by
  unfold w_X2_follow_F16 at h
  refine z_iload b dX2_follow_16 rfl ?_
  refine z_aload_n b dX2_follow_18 rfl rfl ?_
  obtain ⟨g3, h⟩ := h
  refine z_get (q0 := 12 + 2 * x1) (k9 := 1) (v := .int (fi S.1 (1 + 2 * x1))) b (kw_ro cy a rw S g3) rfl in_X7 (by decide) wf_X2_108 rfl dX2_follow_19 ?_
  refine y_icmp_ge (tgt := 74) (xl := x5.toInt) (yl := (fi S.1 (1 + 2 * x1)).toInt) b rfl rfl dX2_follow_22 (by decide) (fun c1 => ?_) (fun c1 => ?_)
  · replace h := h.1 c1
    refine z_lv0 (lv' := [(1, .ref (a (12 + 2 * x1)))]) [1] rfl ?_
    exact hk74 _ _ h
  · replace h := h.2 c1
    refine z_aload_n b dX2_follow_25 rfl rfl ?_
    refine z_aload_n b dX2_follow_26 rfl rfl ?_
    refine z_aload_n b dX2_follow_27 rfl rfl ?_
    refine z_get (q0 := 35) (k9 := 3) (v := .ref (a 8)) b (kw_35 cy a rw S) rfl in_X2 (by decide) wf_X2_25 rfl dX2_follow_28 ?_
    refine z_aload_n b dX2_follow_31 rfl rfl ?_
    refine z_iload b dX2_follow_32 rfl ?_
    obtain ⟨g4, h⟩ := h
    refine z_calli b (z_runV (q0 := 12 + 2 * x1) (As := [.int x5]) (st := [.ref (a 8), .ref (a 35), .ref (a 35)]) b (k_X7_get hrw S x1 x5 _ h) cf_X7_get (kw_ro cy a rw S g4) rfl wm_X2_113 wi_X7_get ws_X7_get dX2_follow_34 rfl (Nat.le_of_ble_eq_true rfl) ⟨by decide, by decide, Nat.le_of_ble_eq_true rfl, Nat.le_of_ble_eq_true rfl⟩) (fun r5 S6 h => ?_)
    refine z_iload_n b dX2_follow_37 rfl rfl ?_
    refine z_iload b dX2_follow_38 rfl ?_
    refine z_calli b (z_runV (q0 := 35) (As := [.ref (a 8), .int r5, .int x3, .int x4]) (st := [.ref (a 35)]) b (k_X2_why hrw S6 3 r5 x3 x4 _ h) cf_X2_why (kw_35 cy a rw S6) rfl wm_X2_115 wi_X2_why ws_X2_why dX2_follow_40 rfl (Nat.le_of_ble_eq_true rfl) ⟨by decide, by decide, Nat.le_of_ble_eq_true rfl, Nat.le_of_ble_eq_true rfl⟩) (fun r7 S8 h => ?_)
    refine z_put (q0 := 35) (k9 := 4) tyX2 b (kw_35 cy a rw S8) rfl in_X2 tyX2_ok nmX2 (by decide) wf_X2_28 rfl rfl rfl rfl (Nat.le_of_ble_eq_true rfl) dX2_follow_43 (kwp_35_4 cy a rw S8 r7) ?_
    refine z_aload_n b dX2_follow_46 rfl rfl ?_
    refine z_get (q0 := 35) (k9 := 4) (v := .int r7) b (kw_35 cy a rw (ksi S8 22 r7)) rfl in_X2 (by decide) wf_X2_28 rfl dX2_follow_47 ?_
    refine z_iconst (v := (-1)) b dX2_follow_50 (by decide) ?_
    refine y_icmp_eq (tgt := 57) (xl := r7.toInt) (yl := (-1)) b rfl (by decide) dX2_follow_51 (by decide) (fun c1 => ?_) (fun c1 => ?_)
    · replace h := h.1 c1
      refine z_aload_n b dX2_follow_57 rfl rfl ?_
      refine z_get (q0 := 35) (k9 := 3) (v := .ref (a 8)) b (kw_35 cy a rw (ksi S8 22 r7)) rfl in_X2 (by decide) wf_X2_25 rfl dX2_follow_58 ?_
      refine z_aload_n b dX2_follow_61 rfl rfl ?_
      refine z_get (q0 := 35) (k9 := 2) (v := .ref (a 6)) b (kw_35 cy a rw (ksi S8 22 r7)) rfl in_X2 (by decide) wf_X2_21 rfl dX2_follow_62 ?_
      refine z_callv b (z_runV (q0 := 8) (As := [.ref (a 6)]) (st := []) b (k_X9_copy hrw (ksi S8 22 r7) 3 2 _ h) cf_X9_copy (kw_8 cy a rw (ksi S8 22 r7)) rfl wm_X2_80 wi_X9_copy ws_X9_copy dX2_follow_65 rfl (Nat.le_of_ble_eq_true rfl) ⟨by decide, by decide, Nat.le_of_ble_eq_true rfl, Nat.le_of_ble_eq_true rfl⟩) (fun S10 h => ?_)
      refine z_iinc (k9 := 4) (v := (x5 + 1)) (lv' := [(5, .int (x5 + 1)), (0, .ref (a 35)), (1, .ref (a (12 + 2 * x1))), (3, .int x3), (4, .int x4)]) b dX2_follow_68 rfl rfl (by decide) rfl ?_
      refine z_goto (tgt := 16) b dX2_follow_71 (by decide) ?_
      refine z_lv0 (lv' := [(0, .ref (a 35)), (1, .ref (a (12 + 2 * x1))), (3, .int x3), (4, .int x4), (5, .int (x5 + 1))]) [1, 2, 3, 4, 0] rfl ?_
      exact hk16 _ _ _ _ _ h
    · replace h := h.2 c1
      refine z_iload b dX2_follow_54 rfl ?_
      exact z_iret (u := (ksi S8 22 r7)) b rfl dX2_follow_56 h rfl (by decide) (by decide)

