def w_X6_look (cy : Nat → ClassId) (tE : Nat) (S : KS) (p0 : Nat) (p1 : Int32) (post : KS → Prop) : Prop :=
  w_X11_doerOf cy tE (kse S 3 p0) p1 (fun r1 S2 => w_X11_otherOf cy tE (ksi S2 23 r1) p1 (fun r3 S4 => w_X11_thingOf cy tE (ksi S4 24 r3) p1 (fun r5 S6 => post (ksi S6 25 r5))))

set_option maxHeartbeats 200000 in
set_option maxRecDepth 100000 in
theorem k_X6_look {l : Launch} {D : va_G} {cy : Nat → ClassId} {T0 tB tE : Nat} {a : Nat → Nat} {rw : Nat → Option Nat} (hrw : ∀ i, i < 6 → rw i = some (a (12 + 2 * i))) (S : KS) (p0 : Nat) (p1 : Int32) (post : KS → Prop) (h : w_X6_look cy tE S p0 p1 post) : Ct l D cy T0 tB tE yX6_look cX6_look 3 none 1 20 0 0 (kw cy a rw S) [.ref (a 36), .ref (a (2 + 2 * p0)), .int p1] (QV D (U := KS) post (kw cy a rw)) := by
  refine Ct.ofZ RX6 "look" [(0, .ref (a 36)), (1, .ref (a (2 + 2 * p0))), (2, .int p1)] rfl rfl rfl rfl (Nat.le_of_ble_eq_true rfl) ?_
  intro p e R s m args below meth c A b
  unfold w_X6_look at h
  refine z_aload_n b dX6_look_0 rfl rfl ?_
  refine z_aload_n b dX6_look_1 rfl rfl ?_
  refine z_put (q0 := 36) (k9 := 1) tyX6 b (kw_36 cy a rw S) rfl in_X6 tyX6_ok nmX6 (by decide) wf_X6_18 rfl rfl rfl rfl (Nat.le_of_ble_eq_true rfl) dX6_look_2 (kwp_36_1 cy a rw S p0) ?_
  refine z_aload_n b dX6_look_5 rfl rfl ?_
  refine z_iload_n b dX6_look_6 rfl rfl ?_
  refine z_calli b (z_runSN (As := [.int p1]) (st := [.ref (a 36)]) b (k_X11_doerOf hrw (kse S 3 p0) p1 _ h) cf_X11_doerOf (nw_X6_32) ws_X11_doerOf dX6_look_7 rfl (Nat.le_of_ble_eq_true rfl) ⟨by decide, by decide, Nat.le_of_ble_eq_true rfl, Nat.le_of_ble_eq_true rfl⟩) (fun r1 S2 h => ?_)
  refine z_put (q0 := 36) (k9 := 2) tyX6 b (kw_36 cy a rw S2) rfl in_X6 tyX6_ok nmX6 (by decide) wf_X6_22 rfl rfl rfl rfl (Nat.le_of_ble_eq_true rfl) dX6_look_10 (kwp_36_2 cy a rw S2 r1) ?_
  refine z_aload_n b dX6_look_13 rfl rfl ?_
  refine z_iload_n b dX6_look_14 rfl rfl ?_
  refine z_calli b (z_runSN (As := [.int p1]) (st := [.ref (a 36)]) b (k_X11_otherOf hrw (ksi S2 23 r1) p1 _ h) cf_X11_otherOf (nw_X6_36) ws_X11_otherOf dX6_look_15 rfl (Nat.le_of_ble_eq_true rfl) ⟨by decide, by decide, Nat.le_of_ble_eq_true rfl, Nat.le_of_ble_eq_true rfl⟩) (fun r3 S4 h => ?_)
  refine z_put (q0 := 36) (k9 := 3) tyX6 b (kw_36 cy a rw S4) rfl in_X6 tyX6_ok nmX6 (by decide) wf_X6_26 rfl rfl rfl rfl (Nat.le_of_ble_eq_true rfl) dX6_look_18 (kwp_36_3 cy a rw S4 r3) ?_
  refine z_aload_n b dX6_look_21 rfl rfl ?_
  refine z_iload_n b dX6_look_22 rfl rfl ?_
  refine z_calli b (z_runSN (As := [.int p1]) (st := [.ref (a 36)]) b (k_X11_thingOf hrw (ksi S4 24 r3) p1 _ h) cf_X11_thingOf (nw_X6_39) ws_X11_thingOf dX6_look_23 rfl (Nat.le_of_ble_eq_true rfl) ⟨by decide, by decide, Nat.le_of_ble_eq_true rfl, Nat.le_of_ble_eq_true rfl⟩) (fun r5 S6 h => ?_)
  refine z_put (q0 := 36) (k9 := 4) tyX6 b (kw_36 cy a rw S6) rfl in_X6 tyX6_ok nmX6 (by decide) wf_X6_29 rfl rfl rfl rfl (Nat.le_of_ble_eq_true rfl) dX6_look_26 (kwp_36_4 cy a rw S6 r5) ?_
  exact z_vret (u := (ksi S6 25 r5)) b rfl dX6_look_29 h rfl (by decide) (by decide)

def w_J3_checkIndex_8e157_B9 (cy : Nat → ClassId) (tE : Nat) (post : Int32 → KS → Prop) (S : KS) (x0 : Int32) (x1 : Int32) : Prop :=
  False

set_option maxHeartbeats 200000 in
set_option maxRecDepth 100000 in
theorem z_J3_checkIndex_8e157_B9 {p : Program} {l : Launch} {e : Env} {R : Room} {s : State} {m : MethodId} {args : Array Value} {below : List Frame} {meth : Method} {c : Code} {D : va_G} {cy : Nat → ClassId} {T0 tB tE : Nat} {A : Nat → Prop} {a : Nat → Nat} {rw : Nat → Option Nat} (hrw : ∀ i, i < 6 → rw i = some (a (12 + 2 * i))) {post : Int32 → KS → Prop} (b : Bz p R s m args meth c D cy T0 tB tE A 3 cJ3_checkIndex_8e157 RJ3 (some .int) "checkIndex" 0 0 0 0) (S : KS) (x0 : Int32) (x1 : Int32) (h : w_J3_checkIndex_8e157_B9 cy tE post S x0 x1) : Z p l e R s m args below meth c D A 3 (MQ below (QI D (U := KS) post (kw cy a rw) A) args s 0 0 A) 0 0 (kw cy a rw S) [(0, .int x0), (1, .int x1), (2, .null)] 9 [] := by
  unfold w_J3_checkIndex_8e157_B9 at h
  refine z_aload_nN b dJ3_checkIndex_8e157_9 rfl rfl ?_
  refine z_iload_n b dJ3_checkIndex_8e157_10 rfl rfl ?_
  refine z_iload_n b dJ3_checkIndex_8e157_11 rfl rfl ?_
  exact h.elim

def w_J3_checkIndex_8e157 (cy : Nat → ClassId) (tE : Nat) (S : KS) (p0 : Int32) (p1 : Int32) (post : Int32 → KS → Prop) : Prop :=
  ((p0.toInt < 0 → w_J3_checkIndex_8e157_B9 cy tE post S p0 p1) ∧ (0 ≤ p0.toInt → ((p0.toInt < p1.toInt → post p0 S) ∧ (p1.toInt ≤ p0.toInt → w_J3_checkIndex_8e157_B9 cy tE post S p0 p1))))

set_option maxHeartbeats 200000 in
set_option maxRecDepth 100000 in
theorem k_J3_checkIndex_8e157 {l : Launch} {D : va_G} {cy : Nat → ClassId} {T0 tB tE : Nat} {a : Nat → Nat} {rw : Nat → Option Nat} (hrw : ∀ i, i < 6 → rw i = some (a (12 + 2 * i))) (S : KS) (p0 : Int32) (p1 : Int32) (post : Int32 → KS → Prop) (h : w_J3_checkIndex_8e157 cy tE S p0 p1 post) : Ct l D cy T0 tB tE yJ3_checkIndex_8e157 cJ3_checkIndex_8e157 3 (some .int) 0 0 0 0 (kw cy a rw S) [.int p0, .int p1, .null] (QI D (U := KS) post (kw cy a rw)) := by
  refine Ct.ofZ RJ3 "checkIndex" [(0, .int p0), (1, .int p1), (2, .null)] rfl rfl rfl rfl (Nat.le_of_ble_eq_true rfl) ?_
  intro p e R s m args below meth c A b
  unfold w_J3_checkIndex_8e157 at h
  refine z_iload_n b dJ3_checkIndex_8e157_0 rfl rfl ?_
  refine y_if_lt (tgt := 9) (xl := p0.toInt) b rfl dJ3_checkIndex_8e157_1 (by decide) (fun c1 => ?_) (fun c1 => ?_)
  · replace h := h.1 c1
    exact z_J3_checkIndex_8e157_B9 hrw b _ _ _ h
  · replace h := h.2 c1
    refine z_iload_n b dJ3_checkIndex_8e157_4 rfl rfl ?_
    refine z_iload_n b dJ3_checkIndex_8e157_5 rfl rfl ?_
    refine y_icmp_lt (tgt := 16) (xl := p0.toInt) (yl := p1.toInt) b rfl rfl dJ3_checkIndex_8e157_6 (by decide) (fun c1 => ?_) (fun c1 => ?_)
    · replace h := h.1 c1
      refine z_iload_n b dJ3_checkIndex_8e157_16 rfl rfl ?_
      exact z_iret (u := S) b rfl dJ3_checkIndex_8e157_17 h rfl (by decide) (by decide)
    · replace h := h.2 c1
      exact z_J3_checkIndex_8e157_B9 hrw b _ _ _ h

def w_J15_checkIndex_7cf53 (cy : Nat → ClassId) (tE : Nat) (S : KS) (p0 : Int32) (p1 : Int32) (post : Int32 → KS → Prop) : Prop :=
  w_J3_checkIndex_8e157 cy tE S p0 p1 (fun r1 S2 => post r1 S2)

set_option maxHeartbeats 200000 in
set_option maxRecDepth 100000 in
theorem k_J15_checkIndex_7cf53 {l : Launch} {D : va_G} {cy : Nat → ClassId} {T0 tB tE : Nat} {a : Nat → Nat} {rw : Nat → Option Nat} (hrw : ∀ i, i < 6 → rw i = some (a (12 + 2 * i))) (S : KS) (p0 : Int32) (p1 : Int32) (post : Int32 → KS → Prop) (h : w_J15_checkIndex_7cf53 cy tE S p0 p1 post) : Ct l D cy T0 tB tE yJ15_checkIndex_7cf53 cJ15_checkIndex_7cf53 2 (some .int) 1 22 0 0 (kw cy a rw S) [.int p0, .int p1] (QI D (U := KS) post (kw cy a rw)) := by
  refine Ct.ofZ RJ15 "checkIndex" [(0, .int p0), (1, .int p1)] rfl rfl rfl rfl (Nat.le_of_ble_eq_true rfl) ?_
  intro p e R s m args below meth c A b
  unfold w_J15_checkIndex_7cf53 at h
  refine z_iload_n b dJ15_checkIndex_7cf53_0 rfl rfl ?_
  refine z_iload_n b dJ15_checkIndex_7cf53_1 rfl rfl ?_
  refine z_null b dJ15_checkIndex_7cf53_2 ?_
  refine z_calli b (z_runS (As := [.int p0, .int p1, .null]) (st := []) b (k_J3_checkIndex_8e157 hrw S p0 p1 _ h) cf_J3_checkIndex_8e157 wm_J15_105 ws_J3_checkIndex_8e157 dJ15_checkIndex_7cf53_3 rfl (Nat.le_of_ble_eq_true rfl) ⟨by decide, by decide, Nat.le_of_ble_eq_true rfl, Nat.le_of_ble_eq_true rfl⟩) (fun r1 S2 h => ?_)
  exact z_iret (u := S2) b rfl dJ15_checkIndex_7cf53_6 h rfl (by decide) (by decide)

def w_Jx4a65c_elementData_915e3 (cy : Nat → ClassId) (tE : Nat) (S : KS) (p9 : Nat) (p0 : Int32) (post : Option Nat → KS → Prop) : Prop :=
  ∃ (i1 : Nat) (f2 : Int32) (f3 : Nat) (f4 : Int32), S.2.2.2[i1]? = some (p9, .inr (0, [.int f2, .ref f3, .int f4])) ∧ ∃ (i6 n7 : Nat) (f8 : Nat → Option Nat), S.2.2.2[i6]? = some (f3, .inl (cy 5, n7, .inr (.inr (.inr (.inr f8))))) ∧ (0 ≤ p0.toInt ∧ p0.toInt < (n7 : Int)) ∧ post (f8 p0.toNatClampNeg) S

set_option maxHeartbeats 200000 in
set_option maxRecDepth 100000 in
theorem k_Jx4a65c_elementData_915e3 {l : Launch} {D : va_G} {cy : Nat → ClassId} {T0 tB tE : Nat} {a : Nat → Nat} {rw : Nat → Option Nat} (hrw : ∀ i, i < 6 → rw i = some (a (12 + 2 * i))) (S : KS) (p9 : Nat) (p0 : Int32) (post : Option Nat → KS → Prop) (h : w_Jx4a65c_elementData_915e3 cy tE S p9 p0 post) : Ct l D cy T0 tB tE yJx4a65c_elementData_915e3 cJx4a65c_elementData_915e3 2 (some (.object "java/lang/Object")) 0 0 0 0 (kw cy a rw S) [.ref p9, .int p0] (QQ D (U := KS) post (kw cy a rw)) := by
  refine Ct.ofZ RJx4a65c "elementData" [(0, .ref p9), (1, .int p0)] rfl rfl rfl rfl (Nat.le_of_ble_eq_true rfl) ?_
  intro p e R s m args below meth c A b
  unfold w_Jx4a65c_elementData_915e3 at h
  refine z_aload_n b dJx4a65c_elementData_915e3_0 rfl rfl ?_
  obtain ⟨i1, f2, f3, f4, g5, h⟩ := h
  refine z_get (q0 := 47 + i1) (k9 := 1) (v := .ref f3) b (kw_dyn cy a rw S g5) rfl in_Jx4a65c (by decide) wf_Jx4a65c_9 rfl dJx4a65c_elementData_915e3_1 ?_
  refine z_iload_n b dJx4a65c_elementData_915e3_4 rfl rfl ?_
  obtain ⟨i6, n7, f8, g9, h⟩ := h
  obtain ⟨g10, h⟩ := h
  refine y_aald (q0 := 47 + i6) (t0 := 5) (j := p0.toNatClampNeg) (v := va_rf (f8 p0.toNatClampNeg)) b (kw_dyn cy a rw S g9) rfl (zx_r g10.1 g10.2) rfl dJx4a65c_elementData_915e3_5 ?_
  exact z_aret (v := (f8 p0.toNatClampNeg)) (u := S) b rfl (Or.inl ⟨_, rfl⟩) dJx4a65c_elementData_915e3_6 h rfl (by decide) (by decide)

def w_Jx4a65c_get_915e3 (cy : Nat → ClassId) (tE : Nat) (S : KS) (p9 : Nat) (p0 : Int32) (post : Option Nat → KS → Prop) : Prop :=
  ∃ (i1 : Nat) (f2 : Int32) (f3 : Value) (f4 : Int32), S.2.2.2[i1]? = some (p9, .inr (0, [.int f2, f3, .int f4])) ∧ w_J15_checkIndex_7cf53 cy tE S p0 f4 (fun r6 S7 => ∃ (i8 : Nat) (f9 : List Value), S7.2.2.2[i8]? = some (p9, .inr (0, f9)) ∧ w_Jx4a65c_elementData_915e3 cy tE S7 p9 p0 (fun r11 S12 => post r11 S12))

set_option maxHeartbeats 200000 in
set_option maxRecDepth 100000 in
theorem k_Jx4a65c_get_915e3 {l : Launch} {D : va_G} {cy : Nat → ClassId} {T0 tB tE : Nat} {a : Nat → Nat} {rw : Nat → Option Nat} (hrw : ∀ i, i < 6 → rw i = some (a (12 + 2 * i))) (S : KS) (p9 : Nat) (p0 : Int32) (post : Option Nat → KS → Prop) (h : w_Jx4a65c_get_915e3 cy tE S p9 p0 post) : Ct l D cy T0 tB tE yJx4a65c_get_915e3 cJx4a65c_get_915e3 2 (some (.object "java/lang/Object")) 2 43 0 0 (kw cy a rw S) [.ref p9, .int p0] (QQ D (U := KS) post (kw cy a rw)) := by
  refine Ct.ofZ RJx4a65c "get" [(0, .ref p9), (1, .int p0)] rfl rfl rfl rfl (Nat.le_of_ble_eq_true rfl) ?_
  intro p e R s m args below meth c A b
  unfold w_Jx4a65c_get_915e3 at h
  refine z_iload_n b dJx4a65c_get_915e3_0 rfl rfl ?_
  refine z_aload_n b dJx4a65c_get_915e3_1 rfl rfl ?_
  obtain ⟨i1, f2, f3, f4, g5, h⟩ := h
  refine z_get (q0 := 47 + i1) (k9 := 2) (v := .int f4) b (kw_dyn cy a rw S g5) rfl in_Jx4a65c (by decide) wf_Jx4a65c_48 rfl dJx4a65c_get_915e3_2 ?_
  refine z_calli b (z_runS (As := [.int p0, .int f4]) (st := []) b (k_J15_checkIndex_7cf53 hrw S p0 f4 _ h) cf_J15_checkIndex_7cf53 wm_Jx4a65c_118 ws_J15_checkIndex_7cf53 dJx4a65c_get_915e3_5 rfl (Nat.le_of_ble_eq_true rfl) ⟨by decide, by decide, Nat.le_of_ble_eq_true rfl, Nat.le_of_ble_eq_true rfl⟩) (fun r6 S7 h => ?_)
  refine z_pop b dJx4a65c_get_915e3_8 rfl ?_
  refine z_aload_n b dJx4a65c_get_915e3_9 rfl rfl ?_
  refine z_iload_n b dJx4a65c_get_915e3_10 rfl rfl ?_
  obtain ⟨i8, f9, g10, h⟩ := h
  refine z_callq b (z_runV (q0 := 47 + i8) (As := [.int p0]) (st := []) b (k_Jx4a65c_elementData_915e3 hrw S7 p9 p0 _ h) cf_Jx4a65c_elementData_915e3 (kw_dyn cy a rw S7 g10) rfl wm_Jx4a65c_123 wi_Jx4a65c_elementData_915e3 ws_Jx4a65c_elementData_915e3 dJx4a65c_get_915e3_11 rfl (Nat.le_of_ble_eq_true rfl) ⟨by decide, by decide, Nat.le_of_ble_eq_true rfl, Nat.le_of_ble_eq_true rfl⟩) (fun r11 S12 h => ?_)
  exact z_aret (v := r11) (u := S12) b rfl (Or.inl ⟨_, rfl⟩) dJx4a65c_get_915e3_14 h rfl (by decide) (by decide)

def w_X9_thingsOf_B25 (cy : Nat → ClassId) (tE : Nat) (post : Int32 → KS → Prop) (k4 : KS → Nat → Int32 → Int32 → Int32 → Prop) (k31 : KS → Int32 → Prop) (S : KS) (x0 : Nat) (x1 : Int32) (x2 : Int32) (x3 : Int32) : Prop :=
  k4 S x0 x1 x2 (x3 + 1)

set_option maxHeartbeats 200000 in
set_option maxRecDepth 100000 in
theorem z_X9_thingsOf_B25 {p : Program} {l : Launch} {e : Env} {R : Room} {s : State} {m : MethodId} {args : Array Value} {below : List Frame} {meth : Method} {c : Code} {D : va_G} {cy : Nat → ClassId} {T0 tB tE : Nat} {A : Nat → Prop} {a : Nat → Nat} {rw : Nat → Option Nat} (hrw : ∀ i, i < 6 → rw i = some (a (12 + 2 * i))) {post : Int32 → KS → Prop} {k4 : KS → Nat → Int32 → Int32 → Int32 → Prop} {k31 : KS → Int32 → Prop} (b : Bz p R s m args meth c D cy T0 tB tE A 4 cX9_thingsOf RX9 (some .int) "thingsOf" 0 0 0 0) (hk4 : ∀ (S : KS) (x0 : Nat) (x1 : Int32) (x2 : Int32) (x3 : Int32), k4 S x0 x1 x2 x3 → Z p l e R s m args below meth c D A 4 (MQ below (QI D (U := KS) post (kw cy a rw) A) args s 0 0 A) 0 0 (kw cy a rw S) [(0, .ref (a (2 + 2 * x0))), (1, .int x1), (2, .int x2), (3, .int x3)] 4 []) (hk31 : ∀ (S : KS) (x2 : Int32), k31 S x2 → Z p l e R s m args below meth c D A 4 (MQ below (QI D (U := KS) post (kw cy a rw) A) args s 0 0 A) 0 0 (kw cy a rw S) [(2, .int x2)] 31 []) (S : KS) (x0 : Nat) (x1 : Int32) (x2 : Int32) (x3 : Int32) (h : w_X9_thingsOf_B25 cy tE post k4 k31 S x0 x1 x2 x3) : Z p l e R s m args below meth c D A 4 (MQ below (QI D (U := KS) post (kw cy a rw) A) args s 0 0 A) 0 0 (kw cy a rw S) [(0, .ref (a (2 + 2 * x0))), (1, .int x1), (2, .int x2), (3, .int x3)] 25 [] := by
  unfold w_X9_thingsOf_B25 at h
  refine z_iinc (k9 := 3) (v := (x3 + 1)) (lv' := [(3, .int (x3 + 1)), (0, .ref (a (2 + 2 * x0))), (1, .int x1), (2, .int x2)]) b dX9_thingsOf_25 rfl rfl (by decide) rfl ?_
  refine z_goto (tgt := 4) b dX9_thingsOf_28 (by decide) ?_
  refine z_lv0 (lv' := [(0, .ref (a (2 + 2 * x0))), (1, .int x1), (2, .int x2), (3, .int (x3 + 1))]) [1, 2, 3, 0] rfl ?_
  exact hk4 _ _ _ _ _ h

def w_X9_thingsOf_F4 (cy : Nat → ClassId) (tE : Nat) (post : Int32 → KS → Prop) (k31 : KS → Int32 → Prop) (k4 : KS → Nat → Int32 → Int32 → Int32 → Prop) (S : KS) (x0 : Nat) (x1 : Int32) (x2 : Int32) (x3 : Int32) : Prop :=
  ((3 ≤ x3.toInt → k31 S x2) ∧ (x3.toInt < 3 → (x0 < 5) ∧ (x0 < 5) ∧ (0 ≤ ((40 : Int32) + x3).toInt ∧ ((40 : Int32) + x3).toInt < 51) ∧ ((((ar S.1 (1 + x0)) ((40 : Int32) + x3).toNatClampNeg).toInt ≠ x1.toInt → w_X9_thingsOf_B25 cy tE post k4 k31 S x0 x1 x2 x3) ∧ (((ar S.1 (1 + x0)) ((40 : Int32) + x3).toNatClampNeg).toInt = x1.toInt → w_X9_thingsOf_B25 cy tE post k4 k31 S x0 x1 (x2 + 1) x3))))

set_option maxHeartbeats 200000 in
set_option maxRecDepth 100000 in
theorem z_X9_thingsOf_F4 {p : Program} {l : Launch} {e : Env} {R : Room} {s : State} {m : MethodId} {args : Array Value} {below : List Frame} {meth : Method} {c : Code} {D : va_G} {cy : Nat → ClassId} {T0 tB tE : Nat} {A : Nat → Prop} {a : Nat → Nat} {rw : Nat → Option Nat} (hrw : ∀ i, i < 6 → rw i = some (a (12 + 2 * i))) {post : Int32 → KS → Prop} {k31 : KS → Int32 → Prop} {k4 : KS → Nat → Int32 → Int32 → Int32 → Prop} (b : Bz p R s m args meth c D cy T0 tB tE A 4 cX9_thingsOf RX9 (some .int) "thingsOf" 0 0 0 0) (hk31 : ∀ (S : KS) (x2 : Int32), k31 S x2 → Z p l e R s m args below meth c D A 4 (MQ below (QI D (U := KS) post (kw cy a rw) A) args s 0 0 A) 0 0 (kw cy a rw S) [(2, .int x2)] 31 []) (hk4 : ∀ (S : KS) (x0 : Nat) (x1 : Int32) (x2 : Int32) (x3 : Int32), k4 S x0 x1 x2 x3 → Z p l e R s m args below meth c D A 4 (MQ below (QI D (U := KS) post (kw cy a rw) A) args s 0 0 A) 0 0 (kw cy a rw S) [(0, .ref (a (2 + 2 * x0))), (1, .int x1), (2, .int x2), (3, .int x3)] 4 []) (S : KS) (x0 : Nat) (x1 : Int32) (x2 : Int32) (x3 : Int32) (h : w_X9_thingsOf_F4 cy tE post k31 k4 S x0 x1 x2 x3) : Z p l e R s m args below meth c D A 4 (MQ below (QI D (U := KS) post (kw cy a rw) A) args s 0 0 A) 0 0 (kw cy a rw S) [(0, .ref (a (2 + 2 * x0))), (1, .int x1), (2, .int x2), (3, .int x3)] 4 [] := by
  unfold w_X9_thingsOf_F4 at h
  refine z_iload_n b dX9_thingsOf_4 rfl rfl ?_
  refine z_iconst (v := 3) b dX9_thingsOf_5 (by decide) ?_
  refine y_icmp_ge (tgt := 31) (xl := x3.toInt) (yl := 3) b rfl (by decide) dX9_thingsOf_6 (by decide) (fun c1 => ?_) (fun c1 => ?_)
  · replace h := h.1 c1
    refine z_lv0 (lv' := [(2, .int x2)]) [2] rfl ?_
    exact hk31 _ _ h
  · replace h := h.2 c1
    refine z_aload_n b dX9_thingsOf_9 rfl rfl ?_
    obtain ⟨g1, h⟩ := h
    refine z_get (q0 := 2 + 2 * x0) (k9 := 0) (v := .ref (a (3 + 2 * x0))) b (kw_so cy a rw S g1) rfl in_X9 (by decide) wf_X9_11 rfl dX9_thingsOf_10 ?_
    refine z_bipush (v := 40) b dX9_thingsOf_13 (by decide) ?_
    refine z_iload_n b dX9_thingsOf_15 rfl rfl ?_
    refine z_iadd b dX9_thingsOf_16 rfl ?_
    obtain ⟨g2, h⟩ := h
    obtain ⟨g3, h⟩ := h
    refine y_iald (q0 := 3 + 2 * x0) (j := ((40 : Int32) + x3).toNatClampNeg) (v := ((ar S.1 (1 + x0)) ((40 : Int32) + x3).toNatClampNeg)) b (kw_sr cy a rw S g2) (zx_r g3.1 g3.2) rfl dX9_thingsOf_17 ?_
    refine z_iload_n b dX9_thingsOf_18 rfl rfl ?_
    refine y_icmp_ne (tgt := 25) (xl := ((ar S.1 (1 + x0)) ((40 : Int32) + x3).toNatClampNeg).toInt) (yl := x1.toInt) b rfl rfl dX9_thingsOf_19 (by decide) (fun c1 => ?_) (fun c1 => ?_)
    · replace h := h.1 c1
      exact z_X9_thingsOf_B25 hrw b hk4 hk31 _ _ _ _ _ h
    · replace h := h.2 c1
      refine z_iinc (k9 := 2) (v := (x2 + 1)) (lv' := [(2, .int (x2 + 1)), (0, .ref (a (2 + 2 * x0))), (1, .int x1), (3, .int x3)]) b dX9_thingsOf_22 rfl rfl (by decide) rfl ?_
      refine z_lv0 (lv' := [(0, .ref (a (2 + 2 * x0))), (1, .int x1), (2, .int (x2 + 1)), (3, .int x3)]) [1, 2, 0, 3] rfl ?_
      exact z_X9_thingsOf_B25 hrw b hk4 hk31 _ _ _ _ _ h

set_option maxHeartbeats 200000 in
set_option maxRecDepth 100000 in
theorem zl_X9_thingsOf_L4 {p : Program} {l : Launch} {e : Env} {R : Room} {s : State} {m : MethodId} {args : Array Value} {below : List Frame} {meth : Method} {c : Code} {D : va_G} {cy : Nat → ClassId} {T0 tB tE : Nat} {A : Nat → Prop} {a : Nat → Nat} {rw : Nat → Option Nat} (hrw : ∀ i, i < 6 → rw i = some (a (12 + 2 * i))) {post : Int32 → KS → Prop} {k31 : KS → Int32 → Prop} (b : Bz p R s m args meth c D cy T0 tB tE A 4 cX9_thingsOf RX9 (some .int) "thingsOf" 0 0 0 0) (hk31 : ∀ (S : KS) (x2 : Int32), k31 S x2 → Z p l e R s m args below meth c D A 4 (MQ below (QI D (U := KS) post (kw cy a rw) A) args s 0 0 A) 0 0 (kw cy a rw S) [(2, .int x2)] 31 []) : ∀ (n : Nat) (S : KS) (x0 : Nat) (x1 : Int32) (x2 : Int32) (x3 : Int32), lpn (w_X9_thingsOf_F4 cy tE post k31) (fun _ _ _ _ _ => False) n S x0 x1 x2 x3 → Z p l e R s m args below meth c D A 4 (MQ below (QI D (U := KS) post (kw cy a rw) A) args s 0 0 A) 0 0 (kw cy a rw S) [(0, .ref (a (2 + 2 * x0))), (1, .int x1), (2, .int x2), (3, .int x3)] 4 [] := by
  intro n
  induction n with
  | zero => intro _ _ _ _ _ h; exact h.elim
  | succ n ih => intro S x0 x1 x2 x3 h; exact z_X9_thingsOf_F4 hrw b hk31 ih S x0 x1 x2 x3 h

def w_X9_thingsOf_B31 (cy : Nat → ClassId) (tE : Nat) (post : Int32 → KS → Prop) (S : KS) (x2 : Int32) : Prop :=
  post x2 S

set_option maxHeartbeats 200000 in
set_option maxRecDepth 100000 in
theorem z_X9_thingsOf_B31 {p : Program} {l : Launch} {e : Env} {R : Room} {s : State} {m : MethodId} {args : Array Value} {below : List Frame} {meth : Method} {c : Code} {D : va_G} {cy : Nat → ClassId} {T0 tB tE : Nat} {A : Nat → Prop} {a : Nat → Nat} {rw : Nat → Option Nat} (hrw : ∀ i, i < 6 → rw i = some (a (12 + 2 * i))) {post : Int32 → KS → Prop} (b : Bz p R s m args meth c D cy T0 tB tE A 4 cX9_thingsOf RX9 (some .int) "thingsOf" 0 0 0 0) (S : KS) (x2 : Int32) (h : w_X9_thingsOf_B31 cy tE post S x2) : Z p l e R s m args below meth c D A 4 (MQ below (QI D (U := KS) post (kw cy a rw) A) args s 0 0 A) 0 0 (kw cy a rw S) [(2, .int x2)] 31 [] := by
  unfold w_X9_thingsOf_B31 at h
  refine z_iload_n b dX9_thingsOf_31 rfl rfl ?_
  exact z_iret (u := S) b rfl dX9_thingsOf_32 h rfl (by decide) (by decide)

def w_X9_thingsOf (cy : Nat → ClassId) (tE : Nat) (S : KS) (p9 : Nat) (p0 : Int32) (post : Int32 → KS → Prop) : Prop :=
  ∃ n, lpn (w_X9_thingsOf_F4 cy tE post (w_X9_thingsOf_B31 cy tE post)) (fun _ _ _ _ _ => False) n S p9 p0 0 0

set_option maxHeartbeats 200000 in
set_option maxRecDepth 100000 in
theorem k_X9_thingsOf {l : Launch} {D : va_G} {cy : Nat → ClassId} {T0 tB tE : Nat} {a : Nat → Nat} {rw : Nat → Option Nat} (hrw : ∀ i, i < 6 → rw i = some (a (12 + 2 * i))) (S : KS) (p9 : Nat) (p0 : Int32) (post : Int32 → KS → Prop) (h : w_X9_thingsOf cy tE S p9 p0 post) : Ct l D cy T0 tB tE yX9_thingsOf cX9_thingsOf 4 (some .int) 0 0 0 0 (kw cy a rw S) [.ref (a (2 + 2 * p9)), .int p0] (QI D (U := KS) post (kw cy a rw)) := by
  refine Ct.ofZ RX9 "thingsOf" [(0, .ref (a (2 + 2 * p9))), (1, .int p0)] rfl rfl rfl rfl (Nat.le_of_ble_eq_true rfl) ?_
  intro p e R s m args below meth c A b
  unfold w_X9_thingsOf at h
  refine z_iconst (v := 0) b dX9_thingsOf_0 (by decide) ?_
  refine z_istore_n (lv' := [(2, .int 0), (0, .ref (a (2 + 2 * p9))), (1, .int p0)]) b dX9_thingsOf_1 rfl (by decide) rfl ?_
  refine z_iconst (v := 0) b dX9_thingsOf_2 (by decide) ?_
  refine z_istore_n (lv' := [(3, .int 0), (2, .int 0), (0, .ref (a (2 + 2 * p9))), (1, .int p0)]) b dX9_thingsOf_3 rfl (by decide) rfl ?_
  refine z_lv0 (lv' := [(0, .ref (a (2 + 2 * p9))), (1, .int p0), (2, .int 0), (3, .int 0)]) [2, 3, 1, 0] rfl ?_
  obtain ⟨n, h⟩ := h
  exact zl_X9_thingsOf_L4 hrw b (fun S x2 h => z_X9_thingsOf_B31 hrw b _ _ h) n _ _ _ _ _ h

def w_X6_operand_B212 (cy : Nat → ClassId) (tE : Nat) (post : Int32 → KS → Prop) (S : KS) (y0 : Int32) : Prop :=
  post y0 S

set_option maxHeartbeats 200000 in
set_option maxRecDepth 100000 in
theorem z_X6_operand_B212 {p : Program} {l : Launch} {e : Env} {R : Room} {s : State} {m : MethodId} {args : Array Value} {below : List Frame} {meth : Method} {c : Code} {D : va_G} {cy : Nat → ClassId} {T0 tB tE : Nat} {A : Nat → Prop} {a : Nat → Nat} {rw : Nat → Option Nat} (hrw : ∀ i, i < 6 → rw i = some (a (12 + 2 * i))) {post : Int32 → KS → Prop} (b : Bz p R s m args meth c D cy T0 tB tE A 5 cX6_operand RX6 (some .int) "operand" 1 23 0 0) (S : KS) (y0 : Int32) (h : w_X6_operand_B212 cy tE post S y0) : Z p l e R s m args below meth c D A 5 (MQ below (QI D (U := KS) post (kw cy a rw) A) args s 0 0 A) 0 0 (kw cy a rw S) [] 212 [.int y0] := by
  unfold w_X6_operand_B212 at h
  exact z_iret (u := S) b rfl dX6_operand_212 h rfl (by decide) (by decide)

def w_X6_operand_B266 (cy : Nat → ClassId) (tE : Nat) (post : Int32 → KS → Prop) (S : KS) (y0 : Int32) : Prop :=
  post y0 S

set_option maxHeartbeats 200000 in
set_option maxRecDepth 100000 in
theorem z_X6_operand_B266 {p : Program} {l : Launch} {e : Env} {R : Room} {s : State} {m : MethodId} {args : Array Value} {below : List Frame} {meth : Method} {c : Code} {D : va_G} {cy : Nat → ClassId} {T0 tB tE : Nat} {A : Nat → Prop} {a : Nat → Nat} {rw : Nat → Option Nat} (hrw : ∀ i, i < 6 → rw i = some (a (12 + 2 * i))) {post : Int32 → KS → Prop} (b : Bz p R s m args meth c D cy T0 tB tE A 5 cX6_operand RX6 (some .int) "operand" 1 23 0 0) (S : KS) (y0 : Int32) (h : w_X6_operand_B266 cy tE post S y0) : Z p l e R s m args below meth c D A 5 (MQ below (QI D (U := KS) post (kw cy a rw) A) args s 0 0 A) 0 0 (kw cy a rw S) [] 266 [.int y0] := by
  unfold w_X6_operand_B266 at h
  exact z_iret (u := S) b rfl dX6_operand_266 h rfl (by decide) (by decide)

def w_X6_operand_B240 (cy : Nat → ClassId) (tE : Nat) (post : Int32 → KS → Prop) (S : KS) (x3 : Int32) (x4 : Int32) : Prop :=
  ((x4.toInt ≠ 3 → ((S.2.1 3) < 5) ∧ w_X9_get cy tE S (S.2.1 3) (((30 : Int32) + ((3 : Int32) * x3)) + x4) (fun r8 S9 => w_X6_operand_B266 cy tE post S9 r8)) ∧ (x4.toInt = 3 → w_X6_operand_B266 cy tE post S 0))

set_option maxHeartbeats 200000 in
set_option maxRecDepth 100000 in
theorem z_X6_operand_B240 {p : Program} {l : Launch} {e : Env} {R : Room} {s : State} {m : MethodId} {args : Array Value} {below : List Frame} {meth : Method} {c : Code} {D : va_G} {cy : Nat → ClassId} {T0 tB tE : Nat} {A : Nat → Prop} {a : Nat → Nat} {rw : Nat → Option Nat} (hrw : ∀ i, i < 6 → rw i = some (a (12 + 2 * i))) {post : Int32 → KS → Prop} (b : Bz p R s m args meth c D cy T0 tB tE A 5 cX6_operand RX6 (some .int) "operand" 1 23 0 0) (S : KS) (x3 : Int32) (x4 : Int32) (h : w_X6_operand_B240 cy tE post S x3 x4) : Z p l e R s m args below meth c D A 5 (MQ below (QI D (U := KS) post (kw cy a rw) A) args s 0 0 A) 0 0 (kw cy a rw S) [(0, .ref (a 36)), (3, .int x3), (4, .int x4)] 240 [] := by
  unfold w_X6_operand_B240 at h
  refine z_iload b dX6_operand_240 rfl ?_
  refine z_iconst (v := 3) b dX6_operand_242 (by decide) ?_
  refine y_icmp_ne (tgt := 250) (xl := x4.toInt) (yl := 3) b rfl (by decide) dX6_operand_243 (by decide) (fun c1 => ?_) (fun c1 => ?_)
  · replace h := h.1 c1
    refine z_aload_n b dX6_operand_250 rfl rfl ?_
    refine z_get (q0 := 36) (k9 := 1) (v := .ref (a (2 + 2 * (S.2.1 3)))) b (kw_36 cy a rw S) rfl in_X6 (by decide) wf_X6_18 rfl dX6_operand_251 ?_
    refine z_bipush (v := 30) b dX6_operand_254 (by decide) ?_
    refine z_iconst (v := 3) b dX6_operand_256 (by decide) ?_
    refine z_iload_n b dX6_operand_257 rfl rfl ?_
    refine z_imul b dX6_operand_258 rfl ?_
    refine z_iadd b dX6_operand_259 rfl ?_
    refine z_iload b dX6_operand_260 rfl ?_
    refine z_iadd b dX6_operand_262 rfl ?_
    obtain ⟨g7, h⟩ := h
    refine z_calli b (z_runV (q0 := 2 + 2 * (S.2.1 3)) (As := [.int (((30 : Int32) + ((3 : Int32) * x3)) + x4)]) (st := []) b (k_X9_get hrw S (S.2.1 3) (((30 : Int32) + ((3 : Int32) * x3)) + x4) _ h) cf_X9_get (kw_so cy a rw S g7) rfl wm_X6_61 wi_X9_get ws_X9_get dX6_operand_263 rfl (Nat.le_of_ble_eq_true rfl) ⟨by decide, by decide, Nat.le_of_ble_eq_true rfl, Nat.le_of_ble_eq_true rfl⟩) (fun r8 S9 h => ?_)
    refine z_lv0 (lv' := []) [] rfl ?_
    exact z_X6_operand_B266 hrw b _ _ h
  · replace h := h.2 c1
    refine z_iconst (v := 0) b dX6_operand_246 (by decide) ?_
    refine z_goto (tgt := 266) b dX6_operand_247 (by decide) ?_
    refine z_lv0 (lv' := []) [] rfl ?_
    exact z_X6_operand_B266 hrw b _ _ h

def w_X6_operand_B239 (cy : Nat → ClassId) (tE : Nat) (post : Int32 → KS → Prop) (S : KS) (y0 : Int32) : Prop :=
  post y0 S

set_option maxHeartbeats 200000 in
set_option maxRecDepth 100000 in
theorem z_X6_operand_B239 {p : Program} {l : Launch} {e : Env} {R : Room} {s : State} {m : MethodId} {args : Array Value} {below : List Frame} {meth : Method} {c : Code} {D : va_G} {cy : Nat → ClassId} {T0 tB tE : Nat} {A : Nat → Prop} {a : Nat → Nat} {rw : Nat → Option Nat} (hrw : ∀ i, i < 6 → rw i = some (a (12 + 2 * i))) {post : Int32 → KS → Prop} (b : Bz p R s m args meth c D cy T0 tB tE A 5 cX6_operand RX6 (some .int) "operand" 1 23 0 0) (S : KS) (y0 : Int32) (h : w_X6_operand_B239 cy tE post S y0) : Z p l e R s m args below meth c D A 5 (MQ below (QI D (U := KS) post (kw cy a rw) A) args s 0 0 A) 0 0 (kw cy a rw S) [] 239 [.int y0] := by
  unfold w_X6_operand_B239 at h
  exact z_iret (u := S) b rfl dX6_operand_239 h rfl (by decide) (by decide)

def w_X6_operand_B176 (cy : Nat → ClassId) (tE : Nat) (post : Int32 → KS → Prop) (S : KS) (y0 : Int32) : Prop :=
  post y0 S

set_option maxHeartbeats 200000 in
set_option maxRecDepth 100000 in
theorem z_X6_operand_B176 {p : Program} {l : Launch} {e : Env} {R : Room} {s : State} {m : MethodId} {args : Array Value} {below : List Frame} {meth : Method} {c : Code} {D : va_G} {cy : Nat → ClassId} {T0 tB tE : Nat} {A : Nat → Prop} {a : Nat → Nat} {rw : Nat → Option Nat} (hrw : ∀ i, i < 6 → rw i = some (a (12 + 2 * i))) {post : Int32 → KS → Prop} (b : Bz p R s m args meth c D cy T0 tB tE A 5 cX6_operand RX6 (some .int) "operand" 1 23 0 0) (S : KS) (y0 : Int32) (h : w_X6_operand_B176 cy tE post S y0) : Z p l e R s m args below meth c D A 5 (MQ below (QI D (U := KS) post (kw cy a rw) A) args s 0 0 A) 0 0 (kw cy a rw S) [] 176 [.int y0] := by
  unfold w_X6_operand_B176 at h
  exact z_iret (u := S) b rfl dX6_operand_176 h rfl (by decide) (by decide)

def w_X6_operand_B175 (cy : Nat → ClassId) (tE : Nat) (post : Int32 → KS → Prop) (S : KS)  : Prop :=
  w_X6_operand_B176 cy tE post S 0

set_option maxHeartbeats 200000 in
set_option maxRecDepth 100000 in
theorem z_X6_operand_B175 {p : Program} {l : Launch} {e : Env} {R : Room} {s : State} {m : MethodId} {args : Array Value} {below : List Frame} {meth : Method} {c : Code} {D : va_G} {cy : Nat → ClassId} {T0 tB tE : Nat} {A : Nat → Prop} {a : Nat → Nat} {rw : Nat → Option Nat} (hrw : ∀ i, i < 6 → rw i = some (a (12 + 2 * i))) {post : Int32 → KS → Prop} (b : Bz p R s m args meth c D cy T0 tB tE A 5 cX6_operand RX6 (some .int) "operand" 1 23 0 0) (S : KS)  (h : w_X6_operand_B175 cy tE post S ) : Z p l e R s m args below meth c D A 5 (MQ below (QI D (U := KS) post (kw cy a rw) A) args s 0 0 A) 0 0 (kw cy a rw S) [] 175 [] := by
  unfold w_X6_operand_B175 at h
  refine z_iconst (v := 0) b dX6_operand_175 (by decide) ?_
  exact z_X6_operand_B176 hrw b _ _ h

def w_X6_operand_B54 (cy : Nat → ClassId) (tE : Nat) (post : Int32 → KS → Prop) (S : KS) (x1 : Int32) (x3 : Int32) (y0 : Int32) : Prop :=
  ((x3.toInt ≠ 3 → ((x1.toInt = 7 → ((S.2.1 3) < 5) ∧ w_X9_get cy tE S (S.2.1 3) x3 (fun r2 S3 => post r2 S3)) ∧ (x1.toInt = 8 → ((y0.toInt ≠ 3 → ((S.2.1 3) < 5) ∧ w_X9_get cy tE S (S.2.1 3) (((10 : Int32) + ((3 : Int32) * x3)) + y0) (fun r5 S6 => w_X6_operand_B212 cy tE post S6 r5)) ∧ (y0.toInt = 3 → w_X6_operand_B212 cy tE post S 0))) ∧ (x1.toInt = 9 → w_X6_operand_B240 cy tE post S x3 y0) ∧ (x1.toInt = 10 → w_X6_operand_B240 cy tE post S x3 y0) ∧ (x1.toInt = 11 → ((y0.toInt ≠ 3 → ((S.2.1 3) < 5) ∧ w_X9_get cy tE S (S.2.1 3) (((20 : Int32) + ((3 : Int32) * x3)) + y0) (fun r11 S12 => w_X6_operand_B239 cy tE post S12 r11)) ∧ (y0.toInt = 3 → w_X6_operand_B239 cy tE post S 0))) ∧ (x1.toInt = 12 → w_X6_operand_B240 cy tE post S x3 y0) ∧ (x1.toInt = 13 → w_X6_operand_B240 cy tE post S x3 y0) ∧ (x1.toInt = 14 → w_X6_operand_B240 cy tE post S x3 y0) ∧ (x1.toInt = 15 → w_X6_operand_B240 cy tE post S x3 y0) ∧ (x1.toInt = 16 → w_X6_operand_B240 cy tE post S x3 y0) ∧ (x1.toInt = 17 → w_X6_operand_B240 cy tE post S x3 y0) ∧ (x1.toInt = 18 → w_X6_operand_B240 cy tE post S x3 y0) ∧ (x1.toInt = 19 → (((fi S.1 25).toInt = 3 → w_X6_operand_B175 cy tE post S) ∧ ((fi S.1 25).toInt ≠ 3 → ((S.2.1 3) < 5) ∧ w_X9_get cy tE S (S.2.1 3) ((40 : Int32) + (fi S.1 25)) (fun r14 S15 => ((r14.toInt ≠ x3.toInt → w_X6_operand_B175 cy tE post S15) ∧ (r14.toInt = x3.toInt → w_X6_operand_B176 cy tE post S15 1)))))) ∧ (x1.toInt = 20 → ((S.2.1 3) < 5) ∧ w_X9_thingsOf cy tE S (S.2.1 3) x3 (fun r17 S18 => post r17 S18)) ∧ (x1.toInt ≠ 7 ∧ x1.toInt ≠ 8 ∧ x1.toInt ≠ 9 ∧ x1.toInt ≠ 10 ∧ x1.toInt ≠ 11 ∧ x1.toInt ≠ 12 ∧ x1.toInt ≠ 13 ∧ x1.toInt ≠ 14 ∧ x1.toInt ≠ 15 ∧ x1.toInt ≠ 16 ∧ x1.toInt ≠ 17 ∧ x1.toInt ≠ 18 ∧ x1.toInt ≠ 19 ∧ x1.toInt ≠ 20 → w_X6_operand_B240 cy tE post S x3 y0))) ∧ (x3.toInt = 3 → post 0 S))

set_option maxHeartbeats 200000 in
set_option maxRecDepth 100000 in
theorem z_X6_operand_B54 {p : Program} {l : Launch} {e : Env} {R : Room} {s : State} {m : MethodId} {args : Array Value} {below : List Frame} {meth : Method} {c : Code} {D : va_G} {cy : Nat → ClassId} {T0 tB tE : Nat} {A : Nat → Prop} {a : Nat → Nat} {rw : Nat → Option Nat} (hrw : ∀ i, i < 6 → rw i = some (a (12 + 2 * i))) {post : Int32 → KS → Prop} (b : Bz p R s m args meth c D cy T0 tB tE A 5 cX6_operand RX6 (some .int) "operand" 1 23 0 0) (S : KS) (x1 : Int32) (x3 : Int32) (y0 : Int32) (h : w_X6_operand_B54 cy tE post S x1 x3 y0) : Z p l e R s m args below meth c D A 5 (MQ below (QI D (U := KS) post (kw cy a rw) A) args s 0 0 A) 0 0 (kw cy a rw S) [(0, .ref (a 36)), (1, .int x1), (3, .int x3)] 54 [.int y0] := by
  unfold w_X6_operand_B54 at h
  refine z_istore (lv' := [(4, .int y0), (0, .ref (a 36)), (1, .int x1), (3, .int x3)]) b dX6_operand_54 (by decide) rfl ?_
  refine z_iload_n b dX6_operand_56 rfl rfl ?_
  refine z_iconst (v := 3) b dX6_operand_57 (by decide) ?_
  refine y_icmp_ne (tgt := 63) (xl := x3.toInt) (yl := 3) b rfl (by decide) dX6_operand_58 (by decide) (fun c1 => ?_) (fun c1 => ?_)
  · replace h := h.1 c1
    refine z_iload_n b dX6_operand_63 rfl rfl ?_
    by_cases e1 : x1.toInt = 7
    · replace h := h.1 e1
      refine z_eqi (y := 7) (y_eqc e1 (by decide)) ?_
      refine z_tableIn (tgt := 136) (off := 72) b dX6_operand_64 (by decide) (by decide) (by decide) (by decide) ?_
      refine z_aload_n b dX6_operand_136 rfl rfl ?_
      refine z_get (q0 := 36) (k9 := 1) (v := .ref (a (2 + 2 * (S.2.1 3)))) b (kw_36 cy a rw S) rfl in_X6 (by decide) wf_X6_18 rfl dX6_operand_137 ?_
      refine z_iload_n b dX6_operand_140 rfl rfl ?_
      obtain ⟨g1, h⟩ := h
      refine z_calli b (z_runV (q0 := 2 + 2 * (S.2.1 3)) (As := [.int x3]) (st := []) b (k_X9_get hrw S (S.2.1 3) x3 _ h) cf_X9_get (kw_so cy a rw S g1) rfl wm_X6_61 wi_X9_get ws_X9_get dX6_operand_141 rfl (Nat.le_of_ble_eq_true rfl) ⟨by decide, by decide, Nat.le_of_ble_eq_true rfl, Nat.le_of_ble_eq_true rfl⟩) (fun r2 S3 h => ?_)
      exact z_iret (u := S3) b rfl dX6_operand_144 h rfl (by decide) (by decide)
    replace h := h.2
    have o0 := e1
    by_cases e1 : x1.toInt = 8
    · replace h := h.1 e1
      refine z_eqi (y := 8) (y_eqc e1 (by decide)) ?_
      refine z_tableIn (tgt := 186) (off := 122) b dX6_operand_64 (by decide) (by decide) (by decide) (by decide) ?_
      refine z_iload b dX6_operand_186 rfl ?_
      refine z_iconst (v := 3) b dX6_operand_188 (by decide) ?_
      refine y_icmp_ne (tgt := 196) (xl := y0.toInt) (yl := 3) b rfl (by decide) dX6_operand_189 (by decide) (fun c1 => ?_) (fun c1 => ?_)
      · replace h := h.1 c1
        refine z_aload_n b dX6_operand_196 rfl rfl ?_
        refine z_get (q0 := 36) (k9 := 1) (v := .ref (a (2 + 2 * (S.2.1 3)))) b (kw_36 cy a rw S) rfl in_X6 (by decide) wf_X6_18 rfl dX6_operand_197 ?_
        refine z_bipush (v := 10) b dX6_operand_200 (by decide) ?_
        refine z_iconst (v := 3) b dX6_operand_202 (by decide) ?_
        refine z_iload_n b dX6_operand_203 rfl rfl ?_
        refine z_imul b dX6_operand_204 rfl ?_
        refine z_iadd b dX6_operand_205 rfl ?_
        refine z_iload b dX6_operand_206 rfl ?_
        refine z_iadd b dX6_operand_208 rfl ?_
        obtain ⟨g4, h⟩ := h
        refine z_calli b (z_runV (q0 := 2 + 2 * (S.2.1 3)) (As := [.int (((10 : Int32) + ((3 : Int32) * x3)) + y0)]) (st := []) b (k_X9_get hrw S (S.2.1 3) (((10 : Int32) + ((3 : Int32) * x3)) + y0) _ h) cf_X9_get (kw_so cy a rw S g4) rfl wm_X6_61 wi_X9_get ws_X9_get dX6_operand_209 rfl (Nat.le_of_ble_eq_true rfl) ⟨by decide, by decide, Nat.le_of_ble_eq_true rfl, Nat.le_of_ble_eq_true rfl⟩) (fun r5 S6 h => ?_)
        refine z_lv0 (lv' := []) [] rfl ?_
        exact z_X6_operand_B212 hrw b _ _ h
      · replace h := h.2 c1
        refine z_iconst (v := 0) b dX6_operand_192 (by decide) ?_
        refine z_goto (tgt := 212) b dX6_operand_193 (by decide) ?_
        refine z_lv0 (lv' := []) [] rfl ?_
        exact z_X6_operand_B212 hrw b _ _ h
    replace h := h.2
    have o1 := e1
    by_cases e1 : x1.toInt = 9
    · replace h := h.1 e1
      refine z_eqi (y := 9) (y_eqc e1 (by decide)) ?_
      refine z_tableIn (tgt := 240) (off := 176) b dX6_operand_64 (by decide) (by decide) (by decide) (by decide) ?_
      refine z_lv0 (lv' := [(0, .ref (a 36)), (3, .int x3), (4, .int y0)]) [1, 3, 0] rfl ?_
      exact z_X6_operand_B240 hrw b _ _ _ h
    replace h := h.2
    have o2 := e1
    by_cases e1 : x1.toInt = 10
    · replace h := h.1 e1
      refine z_eqi (y := 10) (y_eqc e1 (by decide)) ?_
      refine z_tableIn (tgt := 240) (off := 176) b dX6_operand_64 (by decide) (by decide) (by decide) (by decide) ?_
      refine z_lv0 (lv' := [(0, .ref (a 36)), (3, .int x3), (4, .int y0)]) [1, 3, 0] rfl ?_
      exact z_X6_operand_B240 hrw b _ _ _ h
    replace h := h.2
    have o3 := e1
    by_cases e1 : x1.toInt = 11
    · replace h := h.1 e1
      refine z_eqi (y := 11) (y_eqc e1 (by decide)) ?_
      refine z_tableIn (tgt := 213) (off := 149) b dX6_operand_64 (by decide) (by decide) (by decide) (by decide) ?_
      refine z_iload b dX6_operand_213 rfl ?_
      refine z_iconst (v := 3) b dX6_operand_215 (by decide) ?_
      refine y_icmp_ne (tgt := 223) (xl := y0.toInt) (yl := 3) b rfl (by decide) dX6_operand_216 (by decide) (fun c1 => ?_) (fun c1 => ?_)
      · replace h := h.1 c1
        refine z_aload_n b dX6_operand_223 rfl rfl ?_
        refine z_get (q0 := 36) (k9 := 1) (v := .ref (a (2 + 2 * (S.2.1 3)))) b (kw_36 cy a rw S) rfl in_X6 (by decide) wf_X6_18 rfl dX6_operand_224 ?_
        refine z_bipush (v := 20) b dX6_operand_227 (by decide) ?_
        refine z_iconst (v := 3) b dX6_operand_229 (by decide) ?_
        refine z_iload_n b dX6_operand_230 rfl rfl ?_
        refine z_imul b dX6_operand_231 rfl ?_
        refine z_iadd b dX6_operand_232 rfl ?_
        refine z_iload b dX6_operand_233 rfl ?_
        refine z_iadd b dX6_operand_235 rfl ?_
        obtain ⟨g10, h⟩ := h
        refine z_calli b (z_runV (q0 := 2 + 2 * (S.2.1 3)) (As := [.int (((20 : Int32) + ((3 : Int32) * x3)) + y0)]) (st := []) b (k_X9_get hrw S (S.2.1 3) (((20 : Int32) + ((3 : Int32) * x3)) + y0) _ h) cf_X9_get (kw_so cy a rw S g10) rfl wm_X6_61 wi_X9_get ws_X9_get dX6_operand_236 rfl (Nat.le_of_ble_eq_true rfl) ⟨by decide, by decide, Nat.le_of_ble_eq_true rfl, Nat.le_of_ble_eq_true rfl⟩) (fun r11 S12 h => ?_)
        refine z_lv0 (lv' := []) [] rfl ?_
        exact z_X6_operand_B239 hrw b _ _ h
      · replace h := h.2 c1
        refine z_iconst (v := 0) b dX6_operand_219 (by decide) ?_
        refine z_goto (tgt := 239) b dX6_operand_220 (by decide) ?_
        refine z_lv0 (lv' := []) [] rfl ?_
        exact z_X6_operand_B239 hrw b _ _ h
    replace h := h.2
    have o4 := e1
    by_cases e1 : x1.toInt = 12
    · replace h := h.1 e1
      refine z_eqi (y := 12) (y_eqc e1 (by decide)) ?_
      refine z_tableIn (tgt := 240) (off := 176) b dX6_operand_64 (by decide) (by decide) (by decide) (by decide) ?_
      refine z_lv0 (lv' := [(0, .ref (a 36)), (3, .int x3), (4, .int y0)]) [1, 3, 0] rfl ?_
      exact z_X6_operand_B240 hrw b _ _ _ h
    replace h := h.2
    have o5 := e1
    by_cases e1 : x1.toInt = 13
    · replace h := h.1 e1
      refine z_eqi (y := 13) (y_eqc e1 (by decide)) ?_
      refine z_tableIn (tgt := 240) (off := 176) b dX6_operand_64 (by decide) (by decide) (by decide) (by decide) ?_
      refine z_lv0 (lv' := [(0, .ref (a 36)), (3, .int x3), (4, .int y0)]) [1, 3, 0] rfl ?_
      exact z_X6_operand_B240 hrw b _ _ _ h
    replace h := h.2
    have o6 := e1
    by_cases e1 : x1.toInt = 14
    · replace h := h.1 e1
      refine z_eqi (y := 14) (y_eqc e1 (by decide)) ?_
      refine z_tableIn (tgt := 240) (off := 176) b dX6_operand_64 (by decide) (by decide) (by decide) (by decide) ?_
      refine z_lv0 (lv' := [(0, .ref (a 36)), (3, .int x3), (4, .int y0)]) [1, 3, 0] rfl ?_
      exact z_X6_operand_B240 hrw b _ _ _ h
    replace h := h.2
    have o7 := e1
    by_cases e1 : x1.toInt = 15
    · replace h := h.1 e1
      refine z_eqi (y := 15) (y_eqc e1 (by decide)) ?_
      refine z_tableIn (tgt := 240) (off := 176) b dX6_operand_64 (by decide) (by decide) (by decide) (by decide) ?_
      refine z_lv0 (lv' := [(0, .ref (a 36)), (3, .int x3), (4, .int y0)]) [1, 3, 0] rfl ?_
      exact z_X6_operand_B240 hrw b _ _ _ h
    replace h := h.2
    have o8 := e1
    by_cases e1 : x1.toInt = 16
    · replace h := h.1 e1
      refine z_eqi (y := 16) (y_eqc e1 (by decide)) ?_
      refine z_tableIn (tgt := 240) (off := 176) b dX6_operand_64 (by decide) (by decide) (by decide) (by decide) ?_
      refine z_lv0 (lv' := [(0, .ref (a 36)), (3, .int x3), (4, .int y0)]) [1, 3, 0] rfl ?_
      exact z_X6_operand_B240 hrw b _ _ _ h
    replace h := h.2
    have o9 := e1
    by_cases e1 : x1.toInt = 17
    · replace h := h.1 e1
      refine z_eqi (y := 17) (y_eqc e1 (by decide)) ?_
      refine z_tableIn (tgt := 240) (off := 176) b dX6_operand_64 (by decide) (by decide) (by decide) (by decide) ?_
      refine z_lv0 (lv' := [(0, .ref (a 36)), (3, .int x3), (4, .int y0)]) [1, 3, 0] rfl ?_
      exact z_X6_operand_B240 hrw b _ _ _ h
    replace h := h.2
    have o10 := e1
    by_cases e1 : x1.toInt = 18
    · replace h := h.1 e1
      refine z_eqi (y := 18) (y_eqc e1 (by decide)) ?_
      refine z_tableIn (tgt := 240) (off := 176) b dX6_operand_64 (by decide) (by decide) (by decide) (by decide) ?_
      refine z_lv0 (lv' := [(0, .ref (a 36)), (3, .int x3), (4, .int y0)]) [1, 3, 0] rfl ?_
      exact z_X6_operand_B240 hrw b _ _ _ h
    replace h := h.2
    have o11 := e1
    by_cases e1 : x1.toInt = 19
    · replace h := h.1 e1
      refine z_eqi (y := 19) (y_eqc e1 (by decide)) ?_
      refine z_tableIn (tgt := 145) (off := 81) b dX6_operand_64 (by decide) (by decide) (by decide) (by decide) ?_
      refine z_aload_n b dX6_operand_145 rfl rfl ?_
      refine z_get (q0 := 36) (k9 := 4) (v := .int (fi S.1 25)) b (kw_36 cy a rw S) rfl in_X6 (by decide) wf_X6_29 rfl dX6_operand_146 ?_
      refine z_iconst (v := 3) b dX6_operand_149 (by decide) ?_
      refine y_icmp_eq (tgt := 175) (xl := (fi S.1 25).toInt) (yl := 3) b rfl (by decide) dX6_operand_150 (by decide) (fun c1 => ?_) (fun c1 => ?_)
      · replace h := h.1 c1
        refine z_lv0 (lv' := []) [] rfl ?_
        exact z_X6_operand_B175 hrw b _ h
      · replace h := h.2 c1
        refine z_aload_n b dX6_operand_153 rfl rfl ?_
        refine z_get (q0 := 36) (k9 := 1) (v := .ref (a (2 + 2 * (S.2.1 3)))) b (kw_36 cy a rw S) rfl in_X6 (by decide) wf_X6_18 rfl dX6_operand_154 ?_
        refine z_bipush (v := 40) b dX6_operand_157 (by decide) ?_
        refine z_aload_n b dX6_operand_159 rfl rfl ?_
        refine z_get (q0 := 36) (k9 := 4) (v := .int (fi S.1 25)) b (kw_36 cy a rw S) rfl in_X6 (by decide) wf_X6_29 rfl dX6_operand_160 ?_
        refine z_iadd b dX6_operand_163 rfl ?_
        obtain ⟨g13, h⟩ := h
        refine z_calli b (z_runV (q0 := 2 + 2 * (S.2.1 3)) (As := [.int ((40 : Int32) + (fi S.1 25))]) (st := []) b (k_X9_get hrw S (S.2.1 3) ((40 : Int32) + (fi S.1 25)) _ h) cf_X9_get (kw_so cy a rw S g13) rfl wm_X6_61 wi_X9_get ws_X9_get dX6_operand_164 rfl (Nat.le_of_ble_eq_true rfl) ⟨by decide, by decide, Nat.le_of_ble_eq_true rfl, Nat.le_of_ble_eq_true rfl⟩) (fun r14 S15 h => ?_)
        refine z_iload_n b dX6_operand_167 rfl rfl ?_
        refine y_icmp_ne (tgt := 175) (xl := r14.toInt) (yl := x3.toInt) b rfl rfl dX6_operand_168 (by decide) (fun c1 => ?_) (fun c1 => ?_)
        · replace h := h.1 c1
          refine z_lv0 (lv' := []) [] rfl ?_
          exact z_X6_operand_B175 hrw b _ h
        · replace h := h.2 c1
          refine z_iconst (v := 1) b dX6_operand_171 (by decide) ?_
          refine z_goto (tgt := 176) b dX6_operand_172 (by decide) ?_
          refine z_lv0 (lv' := []) [] rfl ?_
          exact z_X6_operand_B176 hrw b _ _ h
    replace h := h.2
    have o12 := e1
    by_cases e1 : x1.toInt = 20
    · replace h := h.1 e1
      refine z_eqi (y := 20) (y_eqc e1 (by decide)) ?_
      refine z_tableIn (tgt := 177) (off := 113) b dX6_operand_64 (by decide) (by decide) (by decide) (by decide) ?_
      refine z_aload_n b dX6_operand_177 rfl rfl ?_
      refine z_get (q0 := 36) (k9 := 1) (v := .ref (a (2 + 2 * (S.2.1 3)))) b (kw_36 cy a rw S) rfl in_X6 (by decide) wf_X6_18 rfl dX6_operand_178 ?_
      refine z_iload_n b dX6_operand_181 rfl rfl ?_
      obtain ⟨g16, h⟩ := h
      refine z_calli b (z_runV (q0 := 2 + 2 * (S.2.1 3)) (As := [.int x3]) (st := []) b (k_X9_thingsOf hrw S (S.2.1 3) x3 _ h) cf_X9_thingsOf (kw_so cy a rw S g16) rfl wm_X6_64 wi_X9_thingsOf ws_X9_thingsOf dX6_operand_182 rfl (Nat.le_of_ble_eq_true rfl) ⟨by decide, by decide, Nat.le_of_ble_eq_true rfl, Nat.le_of_ble_eq_true rfl⟩) (fun r17 S18 h => ?_)
      exact z_iret (u := S18) b rfl dX6_operand_185 h rfl (by decide) (by decide)
    replace h := h.2
    have o13 := e1
    replace h := h ⟨o0, o1, o2, o3, o4, o5, o6, o7, o8, o9, o10, o11, o12, o13⟩
    refine z_tableOut (tgt := 240) b dX6_operand_64 (by omega) (by decide) ?_
    refine z_lv0 (lv' := [(0, .ref (a 36)), (3, .int x3), (4, .int y0)]) [1, 3, 0] rfl ?_
    exact z_X6_operand_B240 hrw b _ _ _ h
  · replace h := h.2 c1
    refine z_iconst (v := 0) b dX6_operand_61 (by decide) ?_
    exact z_iret (u := S) b rfl dX6_operand_62 h rfl (by decide) (by decide)

def w_X6_operand_B38 (cy : Nat → ClassId) (tE : Nat) (post : Int32 → KS → Prop) (S : KS) (x1 : Int32) (x2 : Int32) (y0 : Int32) : Prop :=
  ((x2.toInt ≠ 0 → w_X6_operand_B54 cy tE post S x1 y0 (fi S.1 23)) ∧ (x2.toInt = 0 → w_X6_operand_B54 cy tE post S x1 y0 (fi S.1 24)))

set_option maxHeartbeats 200000 in
set_option maxRecDepth 100000 in
theorem z_X6_operand_B38 {p : Program} {l : Launch} {e : Env} {R : Room} {s : State} {m : MethodId} {args : Array Value} {below : List Frame} {meth : Method} {c : Code} {D : va_G} {cy : Nat → ClassId} {T0 tB tE : Nat} {A : Nat → Prop} {a : Nat → Nat} {rw : Nat → Option Nat} (hrw : ∀ i, i < 6 → rw i = some (a (12 + 2 * i))) {post : Int32 → KS → Prop} (b : Bz p R s m args meth c D cy T0 tB tE A 5 cX6_operand RX6 (some .int) "operand" 1 23 0 0) (S : KS) (x1 : Int32) (x2 : Int32) (y0 : Int32) (h : w_X6_operand_B38 cy tE post S x1 x2 y0) : Z p l e R s m args below meth c D A 5 (MQ below (QI D (U := KS) post (kw cy a rw) A) args s 0 0 A) 0 0 (kw cy a rw S) [(0, .ref (a 36)), (1, .int x1), (2, .int x2)] 38 [.int y0] := by
  unfold w_X6_operand_B38 at h
  refine z_istore_n (lv' := [(3, .int y0), (0, .ref (a 36)), (1, .int x1), (2, .int x2)]) b dX6_operand_38 rfl (by decide) rfl ?_
  refine z_iload_n b dX6_operand_39 rfl rfl ?_
  refine y_if_ne (tgt := 50) (xl := x2.toInt) b rfl dX6_operand_40 (by decide) (fun c1 => ?_) (fun c1 => ?_)
  · replace h := h.1 c1
    refine z_aload_n b dX6_operand_50 rfl rfl ?_
    refine z_get (q0 := 36) (k9 := 2) (v := .int (fi S.1 23)) b (kw_36 cy a rw S) rfl in_X6 (by decide) wf_X6_22 rfl dX6_operand_51 ?_
    refine z_lv0 (lv' := [(0, .ref (a 36)), (1, .int x1), (3, .int y0)]) [1, 2, 0] rfl ?_
    exact z_X6_operand_B54 hrw b _ _ _ _ h
  · replace h := h.2 c1
    refine z_aload_n b dX6_operand_43 rfl rfl ?_
    refine z_get (q0 := 36) (k9 := 3) (v := .int (fi S.1 24)) b (kw_36 cy a rw S) rfl in_X6 (by decide) wf_X6_26 rfl dX6_operand_44 ?_
    refine z_goto (tgt := 54) b dX6_operand_47 (by decide) ?_
    refine z_lv0 (lv' := [(0, .ref (a 36)), (1, .int x1), (3, .int y0)]) [1, 2, 0] rfl ?_
    exact z_X6_operand_B54 hrw b _ _ _ _ h

def w_X6_operand (cy : Nat → ClassId) (tE : Nat) (S : KS) (p0 : Int32) (p1 : Int32) (post : Int32 → KS → Prop) : Prop :=
  ((p0.toInt ≠ 2 → ((p0.toInt ≠ 14 → ((p1.toInt ≠ 0 → w_X6_operand_B38 cy tE post S p0 p1 (fi S.1 24)) ∧ (p1.toInt = 0 → w_X6_operand_B38 cy tE post S p0 p1 (fi S.1 23)))) ∧ (p0.toInt = 14 → ((S.2.1 3) < 5) ∧ w_X9_get cy tE S (S.2.1 3) 50 (fun r20 S21 => post r20 S21)))) ∧ (p0.toInt = 2 → post p1 S))

set_option maxHeartbeats 200000 in
set_option maxRecDepth 100000 in
theorem k_X6_operand {l : Launch} {D : va_G} {cy : Nat → ClassId} {T0 tB tE : Nat} {a : Nat → Nat} {rw : Nat → Option Nat} (hrw : ∀ i, i < 6 → rw i = some (a (12 + 2 * i))) (S : KS) (p0 : Int32) (p1 : Int32) (post : Int32 → KS → Prop) (h : w_X6_operand cy tE S p0 p1 post) : Ct l D cy T0 tB tE yX6_operand cX6_operand 5 (some .int) 1 23 0 0 (kw cy a rw S) [.ref (a 36), .int p0, .int p1] (QI D (U := KS) post (kw cy a rw)) := by
  refine Ct.ofZ RX6 "operand" [(0, .ref (a 36)), (1, .int p0), (2, .int p1)] rfl rfl rfl rfl (Nat.le_of_ble_eq_true rfl) ?_
  intro p e R s m args below meth c A b
  unfold w_X6_operand at h
  refine z_iload_n b dX6_operand_0 rfl rfl ?_
  refine z_iconst (v := 2) b dX6_operand_1 (by decide) ?_
  refine y_icmp_ne (tgt := 7) (xl := p0.toInt) (yl := 2) b rfl (by decide) dX6_operand_2 (by decide) (fun c1 => ?_) (fun c1 => ?_)
  · replace h := h.1 c1
    refine z_iload_n b dX6_operand_7 rfl rfl ?_
    refine z_bipush (v := 14) b dX6_operand_8 (by decide) ?_
    refine y_icmp_ne (tgt := 23) (xl := p0.toInt) (yl := 14) b rfl (by decide) dX6_operand_10 (by decide) (fun c1 => ?_) (fun c1 => ?_)
    · replace h := h.1 c1
      refine z_iload_n b dX6_operand_23 rfl rfl ?_
      refine y_if_ne (tgt := 34) (xl := p1.toInt) b rfl dX6_operand_24 (by decide) (fun c1 => ?_) (fun c1 => ?_)
      · replace h := h.1 c1
        refine z_aload_n b dX6_operand_34 rfl rfl ?_
        refine z_get (q0 := 36) (k9 := 3) (v := .int (fi S.1 24)) b (kw_36 cy a rw S) rfl in_X6 (by decide) wf_X6_26 rfl dX6_operand_35 ?_
        exact z_X6_operand_B38 hrw b _ _ _ _ h
      · replace h := h.2 c1
        refine z_aload_n b dX6_operand_27 rfl rfl ?_
        refine z_get (q0 := 36) (k9 := 2) (v := .int (fi S.1 23)) b (kw_36 cy a rw S) rfl in_X6 (by decide) wf_X6_22 rfl dX6_operand_28 ?_
        refine z_goto (tgt := 38) b dX6_operand_31 (by decide) ?_
        exact z_X6_operand_B38 hrw b _ _ _ _ h
    · replace h := h.2 c1
      refine z_aload_n b dX6_operand_13 rfl rfl ?_
      refine z_get (q0 := 36) (k9 := 1) (v := .ref (a (2 + 2 * (S.2.1 3)))) b (kw_36 cy a rw S) rfl in_X6 (by decide) wf_X6_18 rfl dX6_operand_14 ?_
      refine z_bipush (v := 50) b dX6_operand_17 (by decide) ?_
      obtain ⟨g19, h⟩ := h
      refine z_calli b (z_runV (q0 := 2 + 2 * (S.2.1 3)) (As := [.int 50]) (st := []) b (k_X9_get hrw S (S.2.1 3) 50 _ h) cf_X9_get (kw_so cy a rw S g19) rfl wm_X6_61 wi_X9_get ws_X9_get dX6_operand_19 rfl (Nat.le_of_ble_eq_true rfl) ⟨by decide, by decide, Nat.le_of_ble_eq_true rfl, Nat.le_of_ble_eq_true rfl⟩) (fun r20 S21 h => ?_)
      exact z_iret (u := S21) b rfl dX6_operand_22 h rfl (by decide) (by decide)
  · replace h := h.2 c1
    refine z_iload_n b dX6_operand_5 rfl rfl ?_
    exact z_iret (u := S) b rfl dX6_operand_6 h rfl (by decide) (by decide)

def w_X6_joined_B132 (cy : Nat → ClassId) (tE : Nat) (post : Int32 → KS → Prop) (S : KS) (y0 : Int32) : Prop :=
  post y0 S

set_option maxHeartbeats 200000 in
set_option maxRecDepth 100000 in
theorem z_X6_joined_B132 {p : Program} {l : Launch} {e : Env} {R : Room} {s : State} {m : MethodId} {args : Array Value} {below : List Frame} {meth : Method} {c : Code} {D : va_G} {cy : Nat → ClassId} {T0 tB tE : Nat} {A : Nat → Prop} {a : Nat → Nat} {rw : Nat → Option Nat} (hrw : ∀ i, i < 6 → rw i = some (a (12 + 2 * i))) {post : Int32 → KS → Prop} (b : Bz p R s m args meth c D cy T0 tB tE A 3 cX6_joined RX6 (some .int) "joined" 0 0 0 0) (S : KS) (y0 : Int32) (h : w_X6_joined_B132 cy tE post S y0) : Z p l e R s m args below meth c D A 3 (MQ below (QI D (U := KS) post (kw cy a rw) A) args s 0 0 A) 0 0 (kw cy a rw S) [] 132 [.int y0] := by
  unfold w_X6_joined_B132 at h
  exact z_iret (u := S) b rfl dX6_joined_132 h rfl (by decide) (by decide)

def w_X6_joined_B122 (cy : Nat → ClassId) (tE : Nat) (post : Int32 → KS → Prop) (S : KS) (x1 : Int32) (x2 : Int32) : Prop :=
  ((x1.toInt ≤ x2.toInt → w_X6_joined_B132 cy tE post S 0) ∧ (x2.toInt < x1.toInt → w_X6_joined_B132 cy tE post S 1))

set_option maxHeartbeats 200000 in
set_option maxRecDepth 100000 in
theorem z_X6_joined_B122 {p : Program} {l : Launch} {e : Env} {R : Room} {s : State} {m : MethodId} {args : Array Value} {below : List Frame} {meth : Method} {c : Code} {D : va_G} {cy : Nat → ClassId} {T0 tB tE : Nat} {A : Nat → Prop} {a : Nat → Nat} {rw : Nat → Option Nat} (hrw : ∀ i, i < 6 → rw i = some (a (12 + 2 * i))) {post : Int32 → KS → Prop} (b : Bz p R s m args meth c D cy T0 tB tE A 3 cX6_joined RX6 (some .int) "joined" 0 0 0 0) (S : KS) (x1 : Int32) (x2 : Int32) (h : w_X6_joined_B122 cy tE post S x1 x2) : Z p l e R s m args below meth c D A 3 (MQ below (QI D (U := KS) post (kw cy a rw) A) args s 0 0 A) 0 0 (kw cy a rw S) [(1, .int x1), (2, .int x2)] 122 [] := by
  unfold w_X6_joined_B122 at h
  refine z_iload_n b dX6_joined_122 rfl rfl ?_
  refine z_iload_n b dX6_joined_123 rfl rfl ?_
  refine y_icmp_le (tgt := 131) (xl := x1.toInt) (yl := x2.toInt) b rfl rfl dX6_joined_124 (by decide) (fun c1 => ?_) (fun c1 => ?_)
  · replace h := h.1 c1
    refine z_iconst (v := 0) b dX6_joined_131 (by decide) ?_
    refine z_lv0 (lv' := []) [] rfl ?_
    exact z_X6_joined_B132 hrw b _ _ h
  · replace h := h.2 c1
    refine z_iconst (v := 1) b dX6_joined_127 (by decide) ?_
    refine z_goto (tgt := 132) b dX6_joined_128 (by decide) ?_
    refine z_lv0 (lv' := []) [] rfl ?_
    exact z_X6_joined_B132 hrw b _ _ h

def w_X6_joined_B110 (cy : Nat → ClassId) (tE : Nat) (post : Int32 → KS → Prop) (S : KS) (y0 : Int32) : Prop :=
  post y0 S

set_option maxHeartbeats 200000 in
set_option maxRecDepth 100000 in
theorem z_X6_joined_B110 {p : Program} {l : Launch} {e : Env} {R : Room} {s : State} {m : MethodId} {args : Array Value} {below : List Frame} {meth : Method} {c : Code} {D : va_G} {cy : Nat → ClassId} {T0 tB tE : Nat} {A : Nat → Prop} {a : Nat → Nat} {rw : Nat → Option Nat} (hrw : ∀ i, i < 6 → rw i = some (a (12 + 2 * i))) {post : Int32 → KS → Prop} (b : Bz p R s m args meth c D cy T0 tB tE A 3 cX6_joined RX6 (some .int) "joined" 0 0 0 0) (S : KS) (y0 : Int32) (h : w_X6_joined_B110 cy tE post S y0) : Z p l e R s m args below meth c D A 3 (MQ below (QI D (U := KS) post (kw cy a rw) A) args s 0 0 A) 0 0 (kw cy a rw S) [] 110 [.int y0] := by
  unfold w_X6_joined_B110 at h
  exact z_iret (u := S) b rfl dX6_joined_110 h rfl (by decide) (by decide)

def w_X6_joined_B121 (cy : Nat → ClassId) (tE : Nat) (post : Int32 → KS → Prop) (S : KS) (y0 : Int32) : Prop :=
  post y0 S

set_option maxHeartbeats 200000 in
set_option maxRecDepth 100000 in
theorem z_X6_joined_B121 {p : Program} {l : Launch} {e : Env} {R : Room} {s : State} {m : MethodId} {args : Array Value} {below : List Frame} {meth : Method} {c : Code} {D : va_G} {cy : Nat → ClassId} {T0 tB tE : Nat} {A : Nat → Prop} {a : Nat → Nat} {rw : Nat → Option Nat} (hrw : ∀ i, i < 6 → rw i = some (a (12 + 2 * i))) {post : Int32 → KS → Prop} (b : Bz p R s m args meth c D cy T0 tB tE A 3 cX6_joined RX6 (some .int) "joined" 0 0 0 0) (S : KS) (y0 : Int32) (h : w_X6_joined_B121 cy tE post S y0) : Z p l e R s m args below meth c D A 3 (MQ below (QI D (U := KS) post (kw cy a rw) A) args s 0 0 A) 0 0 (kw cy a rw S) [] 121 [.int y0] := by
  unfold w_X6_joined_B121 at h
  exact z_iret (u := S) b rfl dX6_joined_121 h rfl (by decide) (by decide)

def w_X6_joined (cy : Nat → ClassId) (tE : Nat) (S : KS) (p0 : Int32) (p1 : Int32) (p2 : Int32) (post : Int32 → KS → Prop) : Prop :=
  ((p0.toInt = 15 → post (p1 ||| p2) S) ∧ (p0.toInt = 16 → post (p1 &&& p2) S) ∧ (p0.toInt = 17 → w_X6_joined_B122 cy tE post S p1 p2) ∧ (p0.toInt = 18 → w_X6_joined_B122 cy tE post S p1 p2) ∧ (p0.toInt = 19 → w_X6_joined_B122 cy tE post S p1 p2) ∧ (p0.toInt = 20 → w_X6_joined_B122 cy tE post S p1 p2) ∧ (p0.toInt = 21 → w_X6_joined_B122 cy tE post S p1 p2) ∧ (p0.toInt = 22 → w_X6_joined_B122 cy tE post S p1 p2) ∧ (p0.toInt = 23 → w_X6_joined_B122 cy tE post S p1 p2) ∧ (p0.toInt = 24 → post (p1 + p2) S) ∧ (p0.toInt = 25 → post (p1 - p2) S) ∧ (p0.toInt = 26 → post (p1 * p2) S) ∧ (p0.toInt = 27 → w_X6_joined_B122 cy tE post S p1 p2) ∧ (p0.toInt = 28 → w_X6_joined_B122 cy tE post S p1 p2) ∧ (p0.toInt = 29 → ((p2.toInt ≤ p1.toInt → w_X6_joined_B110 cy tE post S 0) ∧ (p1.toInt < p2.toInt → w_X6_joined_B110 cy tE post S 1))) ∧ (p0.toInt = 30 → ((p1.toInt ≠ p2.toInt → w_X6_joined_B121 cy tE post S 0) ∧ (p1.toInt = p2.toInt → w_X6_joined_B121 cy tE post S 1))) ∧ (p0.toInt ≠ 15 ∧ p0.toInt ≠ 16 ∧ p0.toInt ≠ 17 ∧ p0.toInt ≠ 18 ∧ p0.toInt ≠ 19 ∧ p0.toInt ≠ 20 ∧ p0.toInt ≠ 21 ∧ p0.toInt ≠ 22 ∧ p0.toInt ≠ 23 ∧ p0.toInt ≠ 24 ∧ p0.toInt ≠ 25 ∧ p0.toInt ≠ 26 ∧ p0.toInt ≠ 27 ∧ p0.toInt ≠ 28 ∧ p0.toInt ≠ 29 ∧ p0.toInt ≠ 30 → w_X6_joined_B122 cy tE post S p1 p2))

set_option maxHeartbeats 200000 in
set_option maxRecDepth 100000 in
theorem k_X6_joined {l : Launch} {D : va_G} {cy : Nat → ClassId} {T0 tB tE : Nat} {a : Nat → Nat} {rw : Nat → Option Nat} (hrw : ∀ i, i < 6 → rw i = some (a (12 + 2 * i))) (S : KS) (p0 : Int32) (p1 : Int32) (p2 : Int32) (post : Int32 → KS → Prop) (h : w_X6_joined cy tE S p0 p1 p2 post) : Ct l D cy T0 tB tE yX6_joined cX6_joined 3 (some .int) 0 0 0 0 (kw cy a rw S) [.int p0, .int p1, .int p2] (QI D (U := KS) post (kw cy a rw)) := by
  refine Ct.ofZ RX6 "joined" [(0, .int p0), (1, .int p1), (2, .int p2)] rfl rfl rfl rfl (Nat.le_of_ble_eq_true rfl) ?_
  intro p e R s m args below meth c A b
  unfold w_X6_joined at h
  refine z_iload_n b dX6_joined_0 rfl rfl ?_
  by_cases e1 : p0.toInt = 15
  · replace h := h.1 e1
    refine z_eqi (y := 15) (y_eqc e1 (by decide)) ?_
    refine z_tableIn (tgt := 80) (off := 79) b dX6_joined_1 (by decide) (by decide) (by decide) (by decide) ?_
    refine z_iload_n b dX6_joined_80 rfl rfl ?_
    refine z_iload_n b dX6_joined_81 rfl rfl ?_
    refine z_ior b dX6_joined_82 rfl ?_
    exact z_iret (u := S) b rfl dX6_joined_83 h rfl (by decide) (by decide)
  replace h := h.2
  have o0 := e1
  by_cases e1 : p0.toInt = 16
  · replace h := h.1 e1
    refine z_eqi (y := 16) (y_eqc e1 (by decide)) ?_
    refine z_tableIn (tgt := 84) (off := 83) b dX6_joined_1 (by decide) (by decide) (by decide) (by decide) ?_
    refine z_iload_n b dX6_joined_84 rfl rfl ?_
    refine z_iload_n b dX6_joined_85 rfl rfl ?_
    refine z_iand b dX6_joined_86 rfl ?_
    exact z_iret (u := S) b rfl dX6_joined_87 h rfl (by decide) (by decide)
  replace h := h.2
  have o1 := e1
  by_cases e1 : p0.toInt = 17
  · replace h := h.1 e1
    refine z_eqi (y := 17) (y_eqc e1 (by decide)) ?_
    refine z_tableIn (tgt := 122) (off := 121) b dX6_joined_1 (by decide) (by decide) (by decide) (by decide) ?_
    refine z_lv0 (lv' := [(1, .int p1), (2, .int p2)]) [1, 2] rfl ?_
    exact z_X6_joined_B122 hrw b _ _ _ h
  replace h := h.2
  have o2 := e1
  by_cases e1 : p0.toInt = 18
  · replace h := h.1 e1
    refine z_eqi (y := 18) (y_eqc e1 (by decide)) ?_
    refine z_tableIn (tgt := 122) (off := 121) b dX6_joined_1 (by decide) (by decide) (by decide) (by decide) ?_
    refine z_lv0 (lv' := [(1, .int p1), (2, .int p2)]) [1, 2] rfl ?_
    exact z_X6_joined_B122 hrw b _ _ _ h
  replace h := h.2
  have o3 := e1
  by_cases e1 : p0.toInt = 19
  · replace h := h.1 e1
    refine z_eqi (y := 19) (y_eqc e1 (by decide)) ?_
    refine z_tableIn (tgt := 122) (off := 121) b dX6_joined_1 (by decide) (by decide) (by decide) (by decide) ?_
    refine z_lv0 (lv' := [(1, .int p1), (2, .int p2)]) [1, 2] rfl ?_
    exact z_X6_joined_B122 hrw b _ _ _ h
  replace h := h.2
  have o4 := e1
  by_cases e1 : p0.toInt = 20
  · replace h := h.1 e1
    refine z_eqi (y := 20) (y_eqc e1 (by decide)) ?_
    refine z_tableIn (tgt := 122) (off := 121) b dX6_joined_1 (by decide) (by decide) (by decide) (by decide) ?_
    refine z_lv0 (lv' := [(1, .int p1), (2, .int p2)]) [1, 2] rfl ?_
    exact z_X6_joined_B122 hrw b _ _ _ h
  replace h := h.2
  have o5 := e1
  by_cases e1 : p0.toInt = 21
  · replace h := h.1 e1
    refine z_eqi (y := 21) (y_eqc e1 (by decide)) ?_
    refine z_tableIn (tgt := 122) (off := 121) b dX6_joined_1 (by decide) (by decide) (by decide) (by decide) ?_
    refine z_lv0 (lv' := [(1, .int p1), (2, .int p2)]) [1, 2] rfl ?_
    exact z_X6_joined_B122 hrw b _ _ _ h
  replace h := h.2
  have o6 := e1
  by_cases e1 : p0.toInt = 22
  · replace h := h.1 e1
    refine z_eqi (y := 22) (y_eqc e1 (by decide)) ?_
    refine z_tableIn (tgt := 122) (off := 121) b dX6_joined_1 (by decide) (by decide) (by decide) (by decide) ?_
    refine z_lv0 (lv' := [(1, .int p1), (2, .int p2)]) [1, 2] rfl ?_
    exact z_X6_joined_B122 hrw b _ _ _ h
  replace h := h.2
  have o7 := e1
  by_cases e1 : p0.toInt = 23
  · replace h := h.1 e1
    refine z_eqi (y := 23) (y_eqc e1 (by decide)) ?_
    refine z_tableIn (tgt := 122) (off := 121) b dX6_joined_1 (by decide) (by decide) (by decide) (by decide) ?_
    refine z_lv0 (lv' := [(1, .int p1), (2, .int p2)]) [1, 2] rfl ?_
    exact z_X6_joined_B122 hrw b _ _ _ h
  replace h := h.2
  have o8 := e1
  by_cases e1 : p0.toInt = 24
  · replace h := h.1 e1
    refine z_eqi (y := 24) (y_eqc e1 (by decide)) ?_
    refine z_tableIn (tgt := 88) (off := 87) b dX6_joined_1 (by decide) (by decide) (by decide) (by decide) ?_
    refine z_iload_n b dX6_joined_88 rfl rfl ?_
    refine z_iload_n b dX6_joined_89 rfl rfl ?_
    refine z_iadd b dX6_joined_90 rfl ?_
    exact z_iret (u := S) b rfl dX6_joined_91 h rfl (by decide) (by decide)
  replace h := h.2
  have o9 := e1
  by_cases e1 : p0.toInt = 25
  · replace h := h.1 e1
    refine z_eqi (y := 25) (y_eqc e1 (by decide)) ?_
    refine z_tableIn (tgt := 92) (off := 91) b dX6_joined_1 (by decide) (by decide) (by decide) (by decide) ?_
    refine z_iload_n b dX6_joined_92 rfl rfl ?_
    refine z_iload_n b dX6_joined_93 rfl rfl ?_
    refine z_isub b dX6_joined_94 rfl ?_
    exact z_iret (u := S) b rfl dX6_joined_95 h rfl (by decide) (by decide)
  replace h := h.2
  have o10 := e1
  by_cases e1 : p0.toInt = 26
  · replace h := h.1 e1
    refine z_eqi (y := 26) (y_eqc e1 (by decide)) ?_
    refine z_tableIn (tgt := 96) (off := 95) b dX6_joined_1 (by decide) (by decide) (by decide) (by decide) ?_
    refine z_iload_n b dX6_joined_96 rfl rfl ?_
    refine z_iload_n b dX6_joined_97 rfl rfl ?_
    refine z_imul b dX6_joined_98 rfl ?_
    exact z_iret (u := S) b rfl dX6_joined_99 h rfl (by decide) (by decide)
  replace h := h.2
  have o11 := e1
  by_cases e1 : p0.toInt = 27
  · replace h := h.1 e1
    refine z_eqi (y := 27) (y_eqc e1 (by decide)) ?_
    refine z_tableIn (tgt := 122) (off := 121) b dX6_joined_1 (by decide) (by decide) (by decide) (by decide) ?_
    refine z_lv0 (lv' := [(1, .int p1), (2, .int p2)]) [1, 2] rfl ?_
    exact z_X6_joined_B122 hrw b _ _ _ h
  replace h := h.2
  have o12 := e1
  by_cases e1 : p0.toInt = 28
  · replace h := h.1 e1
    refine z_eqi (y := 28) (y_eqc e1 (by decide)) ?_
    refine z_tableIn (tgt := 122) (off := 121) b dX6_joined_1 (by decide) (by decide) (by decide) (by decide) ?_
    refine z_lv0 (lv' := [(1, .int p1), (2, .int p2)]) [1, 2] rfl ?_
    exact z_X6_joined_B122 hrw b _ _ _ h
  replace h := h.2
  have o13 := e1
  by_cases e1 : p0.toInt = 29
  · replace h := h.1 e1
    refine z_eqi (y := 29) (y_eqc e1 (by decide)) ?_
    refine z_tableIn (tgt := 100) (off := 99) b dX6_joined_1 (by decide) (by decide) (by decide) (by decide) ?_
    refine z_iload_n b dX6_joined_100 rfl rfl ?_
    refine z_iload_n b dX6_joined_101 rfl rfl ?_
    refine y_icmp_ge (tgt := 109) (xl := p1.toInt) (yl := p2.toInt) b rfl rfl dX6_joined_102 (by decide) (fun c1 => ?_) (fun c1 => ?_)
    · replace h := h.1 c1
      refine z_iconst (v := 0) b dX6_joined_109 (by decide) ?_
      refine z_lv0 (lv' := []) [] rfl ?_
      exact z_X6_joined_B110 hrw b _ _ h
    · replace h := h.2 c1
      refine z_iconst (v := 1) b dX6_joined_105 (by decide) ?_
      refine z_goto (tgt := 110) b dX6_joined_106 (by decide) ?_
      refine z_lv0 (lv' := []) [] rfl ?_
      exact z_X6_joined_B110 hrw b _ _ h
  replace h := h.2
  have o14 := e1
  by_cases e1 : p0.toInt = 30
  · replace h := h.1 e1
    refine z_eqi (y := 30) (y_eqc e1 (by decide)) ?_
    refine z_tableIn (tgt := 111) (off := 110) b dX6_joined_1 (by decide) (by decide) (by decide) (by decide) ?_
    refine z_iload_n b dX6_joined_111 rfl rfl ?_
    refine z_iload_n b dX6_joined_112 rfl rfl ?_
    refine y_icmp_ne (tgt := 120) (xl := p1.toInt) (yl := p2.toInt) b rfl rfl dX6_joined_113 (by decide) (fun c1 => ?_) (fun c1 => ?_)
    · replace h := h.1 c1
      refine z_iconst (v := 0) b dX6_joined_120 (by decide) ?_
      refine z_lv0 (lv' := []) [] rfl ?_
      exact z_X6_joined_B121 hrw b _ _ h
    · replace h := h.2 c1
      refine z_iconst (v := 1) b dX6_joined_116 (by decide) ?_
      refine z_goto (tgt := 121) b dX6_joined_117 (by decide) ?_
      refine z_lv0 (lv' := []) [] rfl ?_
      exact z_X6_joined_B121 hrw b _ _ h
  replace h := h.2
  have o15 := e1
  replace h := h ⟨o0, o1, o2, o3, o4, o5, o6, o7, o8, o9, o10, o11, o12, o13, o14, o15⟩
  refine z_tableOut (tgt := 122) b dX6_joined_1 (by omega) (by decide) ?_
  refine z_lv0 (lv' := [(1, .int p1), (2, .int p2)]) [1, 2] rfl ?_
  exact z_X6_joined_B122 hrw b _ _ _ h

def w_X6_value_B138 (cy : Nat → ClassId) (tE : Nat) (post : Int32 → KS → Prop) (k4 : KS → Nat → Int32 → Int32 → Prop) (k144 : KS → Int32 → Prop) (S : KS) (x1 : Nat) (x2 : Int32) (x3 : Int32) : Prop :=
  k4 S x1 x2 (x3 + 1)

set_option maxHeartbeats 200000 in
set_option maxRecDepth 100000 in
theorem z_X6_value_B138 {p : Program} {l : Launch} {e : Env} {R : Room} {s : State} {m : MethodId} {args : Array Value} {below : List Frame} {meth : Method} {c : Code} {D : va_G} {cy : Nat → ClassId} {T0 tB tE : Nat} {A : Nat → Prop} {a : Nat → Nat} {rw : Nat → Option Nat} (hrw : ∀ i, i < 6 → rw i = some (a (12 + 2 * i))) {post : Int32 → KS → Prop} {k4 : KS → Nat → Int32 → Int32 → Prop} {k144 : KS → Int32 → Prop} (b : Bz p R s m args meth c D cy T0 tB tE A 6 cX6_value RX6 (some .int) "value" 2 47 0 0) (hk4 : ∀ (S : KS) (x1 : Nat) (x2 : Int32) (x3 : Int32), k4 S x1 x2 x3 → Z p l e R s m args below meth c D A 6 (MQ below (QI D (U := KS) post (kw cy a rw) A) args s 0 0 A) 0 0 (kw cy a rw S) [(0, .ref (a 36)), (1, .ref x1), (2, .int x2), (3, .int x3)] 4 []) (hk144 : ∀ (S : KS) (x2 : Int32), k144 S x2 → Z p l e R s m args below meth c D A 6 (MQ below (QI D (U := KS) post (kw cy a rw) A) args s 0 0 A) 0 0 (kw cy a rw S) [(0, .ref (a 36)), (2, .int x2)] 144 []) (S : KS) (x1 : Nat) (x2 : Int32) (x3 : Int32) (h : w_X6_value_B138 cy tE post k4 k144 S x1 x2 x3) : Z p l e R s m args below meth c D A 6 (MQ below (QI D (U := KS) post (kw cy a rw) A) args s 0 0 A) 0 0 (kw cy a rw S) [(0, .ref (a 36)), (1, .ref x1), (2, .int x2), (3, .int x3)] 138 [] := by
  unfold w_X6_value_B138 at h
  refine z_iinc (k9 := 3) (v := (x3 + 1)) (lv' := [(3, .int (x3 + 1)), (0, .ref (a 36)), (1, .ref x1), (2, .int x2)]) b dX6_value_138 rfl rfl (by decide) rfl ?_
  refine z_goto (tgt := 4) b dX6_value_141 (by decide) ?_
  refine z_lv0 (lv' := [(0, .ref (a 36)), (1, .ref x1), (2, .int x2), (3, .int (x3 + 1))]) [1, 2, 3, 0] rfl ?_
  exact hk4 _ _ _ _ h

def w_X6_value_F4 (cy : Nat → ClassId) (tE : Nat) (post : Int32 → KS → Prop) (k144 : KS → Int32 → Prop) (k4 : KS → Nat → Int32 → Int32 → Prop) (S : KS) (x1 : Nat) (x2 : Int32) (x3 : Int32) : Prop :=
  ∃ (i1 : Nat) (f2 : Int32) (f3 : Int32) (f4 : Nat), S.2.2.2[i1]? = some (x1, .inr (2, [.int f2, .int f3, .ref f4])) ∧ ∃ (i6 n7 : Nat) (f8 : Nat → Int32), S.2.2.2[i6]? = some (f4, .inl (cy 0, n7, .inl f8)) ∧ (((Int32.ofNat n7).toInt ≤ x3.toInt → k144 S x2) ∧ (x3.toInt < (Int32.ofNat n7).toInt → ∃ (i10 : Nat) (f11 : Int32) (f12 : Int32) (f13 : Nat), S.2.2.2[i10]? = some (x1, .inr (2, [.int f11, .int f12, .ref f13])) ∧ ∃ (i15 n16 : Nat) (f17 : Nat → Int32), S.2.2.2[i15]? = some (f13, .inl (cy 0, n16, .inl f17)) ∧ (0 ≤ x3.toInt ∧ x3.toInt < (n16 : Int)) ∧ w_X6_isJoint cy tE S ((f17 x3.toNatClampNeg) - (f17 x3.toNatClampNeg) / 32 * 32) (fun r20 S21 => ((r20.toInt = 0 → ((((f17 x3.toNatClampNeg) - (f17 x3.toNatClampNeg) / 32 * 32).toInt ≠ 17 → ((x2.toInt < 0 → w_X6_value_B138 cy tE post k4 k144 S21 x1 x2 x3) ∧ (0 ≤ x2.toInt → ((40 ≤ x2.toInt → w_X6_value_B138 cy tE post k4 k144 S21 x1 x2 x3) ∧ (x2.toInt < 40 → w_X6_operand cy tE S21 ((f17 x3.toNatClampNeg) - (f17 x3.toNatClampNeg) / 32 * 32) ((f17 x3.toNatClampNeg) / 32) (fun r22 S23 => (0 ≤ x2.toInt ∧ x2.toInt < 40) ∧ w_X6_value_B138 cy tE post k4 k144 (ksu S23 16 (x2.toNatClampNeg) r22) x1 (x2 + 1) x3)))))) ∧ (((f17 x3.toNatClampNeg) - (f17 x3.toNatClampNeg) / 32 * 32).toInt = 17 → ((x2.toInt ≤ 0 → w_X6_value_B138 cy tE post k4 k144 S21 x1 x2 x3) ∧ (0 < x2.toInt → (0 ≤ (x2 - 1).toInt ∧ (x2 - 1).toInt < 40) ∧ (0 ≤ (x2 - 1).toInt ∧ (x2 - 1).toInt < 40) ∧ w_X6_value_B138 cy tE post k4 k144 (ksu S21 16 ((x2 - 1).toNatClampNeg) ((1 : Int32) - ((ar S21.1 16) (x2 - 1).toNatClampNeg))) x1 x2 x3))))) ∧ (r20.toInt ≠ 0 → (((x2 + (-1)).toInt ≤ 0 → w_X6_value_B138 cy tE post k4 k144 S21 x1 (x2 + (-1)) x3) ∧ (0 < (x2 + (-1)).toInt → (0 ≤ ((x2 + (-1)) - 1).toInt ∧ ((x2 + (-1)) - 1).toInt < 40) ∧ (0 ≤ (x2 + (-1)).toInt ∧ (x2 + (-1)).toInt < 40) ∧ w_X6_joined cy tE S21 ((f17 x3.toNatClampNeg) - (f17 x3.toNatClampNeg) / 32 * 32) ((ar S21.1 16) ((x2 + (-1)) - 1).toNatClampNeg) ((ar S21.1 16) (x2 + (-1)).toNatClampNeg) (fun r29 S30 => (0 ≤ ((x2 + (-1)) - 1).toInt ∧ ((x2 + (-1)) - 1).toInt < 40) ∧ w_X6_value_B138 cy tE post k4 k144 (ksu S30 16 (((x2 + (-1)) - 1).toNatClampNeg) r29) x1 (x2 + (-1)) x3))))))))

set_option maxHeartbeats 200000 in
set_option maxRecDepth 100000 in
theorem z_X6_value_F4 {p : Program} {l : Launch} {e : Env} {R : Room} {s : State} {m : MethodId} {args : Array Value} {below : List Frame} {meth : Method} {c : Code} {D : va_G} {cy : Nat → ClassId} {T0 tB tE : Nat} {A : Nat → Prop} {a : Nat → Nat} {rw : Nat → Option Nat} (hrw : ∀ i, i < 6 → rw i = some (a (12 + 2 * i))) {post : Int32 → KS → Prop} {k144 : KS → Int32 → Prop} {k4 : KS → Nat → Int32 → Int32 → Prop} (b : Bz p R s m args meth c D cy T0 tB tE A 6 cX6_value RX6 (some .int) "value" 2 47 0 0) (hk144 : ∀ (S : KS) (x2 : Int32), k144 S x2 → Z p l e R s m args below meth c D A 6 (MQ below (QI D (U := KS) post (kw cy a rw) A) args s 0 0 A) 0 0 (kw cy a rw S) [(0, .ref (a 36)), (2, .int x2)] 144 []) (hk4 : ∀ (S : KS) (x1 : Nat) (x2 : Int32) (x3 : Int32), k4 S x1 x2 x3 → Z p l e R s m args below meth c D A 6 (MQ below (QI D (U := KS) post (kw cy a rw) A) args s 0 0 A) 0 0 (kw cy a rw S) [(0, .ref (a 36)), (1, .ref x1), (2, .int x2), (3, .int x3)] 4 []) (S : KS) (x1 : Nat) (x2 : Int32) (x3 : Int32) (h : w_X6_value_F4 cy tE post k144 k4 S x1 x2 x3) : Z p l e R s m args below meth c D A 6 (MQ below (QI D (U := KS) post (kw cy a rw) A) args s 0 0 A) 0 0 (kw cy a rw S) [(0, .ref (a 36)), (1, .ref x1), (2, .int x2), (3, .int x3)] 4 [] := by
  unfold w_X6_value_F4 at h
  refine z_iload_n b dX6_value_4 rfl rfl ?_
  refine z_aload_n b dX6_value_5 rfl rfl ?_
  obtain ⟨i1, f2, f3, f4, g5, h⟩ := h
  refine z_get (q0 := 47 + i1) (k9 := 2) (v := .ref f4) b (kw_dyn cy a rw S g5) rfl in_X1 (by decide) wf_X6_42 rfl dX6_value_6 ?_
  obtain ⟨i6, n7, f8, g9, h⟩ := h
  refine z_alen (q0 := 47 + i6) (t0 := 0) (v := Int32.ofNat n7) b (kw_dyn cy a rw S g9) rfl rfl dX6_value_9 ?_
  refine y_icmp_ge (tgt := 144) (xl := x3.toInt) (yl := (Int32.ofNat n7).toInt) b rfl rfl dX6_value_10 (by decide) (fun c1 => ?_) (fun c1 => ?_)
  · replace h := h.1 c1
    refine z_lv0 (lv' := [(0, .ref (a 36)), (2, .int x2)]) [0, 2] rfl ?_
    exact hk144 _ _ h
  · replace h := h.2 c1
    refine z_aload_n b dX6_value_13 rfl rfl ?_
    obtain ⟨i10, f11, f12, f13, g14, h⟩ := h
    refine z_get (q0 := 47 + i10) (k9 := 2) (v := .ref f13) b (kw_dyn cy a rw S g14) rfl in_X1 (by decide) wf_X6_42 rfl dX6_value_14 ?_
    refine z_iload_n b dX6_value_17 rfl rfl ?_
    obtain ⟨i15, n16, f17, g18, h⟩ := h
    obtain ⟨g19, h⟩ := h
    refine y_iald (q0 := 47 + i15) (j := x3.toNatClampNeg) (v := (f17 x3.toNatClampNeg)) b (kw_dyn cy a rw S g18) (zx_r g19.1 g19.2) rfl dX6_value_18 ?_
    refine z_istore (lv' := [(4, .int (f17 x3.toNatClampNeg)), (0, .ref (a 36)), (1, .ref x1), (2, .int x2), (3, .int x3)]) b dX6_value_19 (by decide) rfl ?_
    refine z_iload b dX6_value_21 rfl ?_
    refine z_bipush (v := 32) b dX6_value_23 (by decide) ?_
    refine z_irem b dX6_value_25 (by decide) rfl ?_
    refine z_istore (lv' := [(5, .int ((f17 x3.toNatClampNeg) - (f17 x3.toNatClampNeg) / 32 * 32)), (4, .int (f17 x3.toNatClampNeg)), (0, .ref (a 36)), (1, .ref x1), (2, .int x2), (3, .int x3)]) b dX6_value_26 (by decide) rfl ?_
    refine z_iload b dX6_value_28 rfl ?_
    refine z_calli b (z_runS (As := [.int ((f17 x3.toNatClampNeg) - (f17 x3.toNatClampNeg) / 32 * 32)]) (st := []) b (k_X6_isJoint hrw S ((f17 x3.toNatClampNeg) - (f17 x3.toNatClampNeg) / 32 * 32) _ h) cf_X6_isJoint wm_X6_49 ws_X6_isJoint dX6_value_30 rfl (Nat.le_of_ble_eq_true rfl) ⟨by decide, by decide, Nat.le_of_ble_eq_true rfl, Nat.le_of_ble_eq_true rfl⟩) (fun r20 S21 h => ?_)
    refine y_if_eq (tgt := 73) (xl := r20.toInt) b rfl dX6_value_33 (by decide) (fun c1 => ?_) (fun c1 => ?_)
    · replace h := h.1 c1
      refine z_iload b dX6_value_73 rfl ?_
      refine z_bipush (v := 17) b dX6_value_75 (by decide) ?_
      refine y_icmp_ne (tgt := 105) (xl := ((f17 x3.toNatClampNeg) - (f17 x3.toNatClampNeg) / 32 * 32).toInt) (yl := 17) b rfl (by decide) dX6_value_77 (by decide) (fun c1 => ?_) (fun c1 => ?_)
      · replace h := h.1 c1
        refine z_iload_n b dX6_value_105 rfl rfl ?_
        refine y_if_lt (tgt := 138) (xl := x2.toInt) b rfl dX6_value_106 (by decide) (fun c1 => ?_) (fun c1 => ?_)
        · replace h := h.1 c1
          refine z_lv0 (lv' := [(0, .ref (a 36)), (1, .ref x1), (2, .int x2), (3, .int x3)]) [2, 3, 4, 5] rfl ?_
          exact z_X6_value_B138 hrw b hk4 hk144 _ _ _ _ h
        · replace h := h.2 c1
          refine z_iload_n b dX6_value_109 rfl rfl ?_
          refine z_aload_n b dX6_value_110 rfl rfl ?_
          refine z_get (q0 := 36) (k9 := 0) (v := .ref (a 37)) b (kw_36 cy a rw S21) rfl in_X6 (by decide) wf_X6_11 rfl dX6_value_111 ?_
          refine z_alen (q0 := 37) (t0 := 0) (v := 40) b (kw_37 cy a rw S21) rfl rfl dX6_value_114 ?_
          refine y_icmp_ge (tgt := 138) (xl := x2.toInt) (yl := 40) b rfl (by decide) dX6_value_115 (by decide) (fun c1 => ?_) (fun c1 => ?_)
          · replace h := h.1 c1
            refine z_lv0 (lv' := [(0, .ref (a 36)), (1, .ref x1), (2, .int x2), (3, .int x3)]) [2, 3, 4, 5] rfl ?_
            exact z_X6_value_B138 hrw b hk4 hk144 _ _ _ _ h
          · replace h := h.2 c1
            refine z_aload_n b dX6_value_118 rfl rfl ?_
            refine z_get (q0 := 36) (k9 := 0) (v := .ref (a 37)) b (kw_36 cy a rw S21) rfl in_X6 (by decide) wf_X6_11 rfl dX6_value_119 ?_
            refine z_iload_n b dX6_value_122 rfl rfl ?_
            refine z_aload_n b dX6_value_123 rfl rfl ?_
            refine z_iload b dX6_value_124 rfl ?_
            refine z_iload b dX6_value_126 rfl ?_
            refine z_bipush (v := 32) b dX6_value_128 (by decide) ?_
            refine z_idiv b dX6_value_130 (by decide) rfl ?_
            refine z_calli b (z_runV (q0 := 36) (As := [.int ((f17 x3.toNatClampNeg) - (f17 x3.toNatClampNeg) / 32 * 32), .int ((f17 x3.toNatClampNeg) / 32)]) (st := [.int x2, .ref (a 37)]) b (k_X6_operand hrw S21 ((f17 x3.toNatClampNeg) - (f17 x3.toNatClampNeg) / 32 * 32) ((f17 x3.toNatClampNeg) / 32) _ h) cf_X6_operand (kw_36 cy a rw S21) rfl wm_X6_57 wi_X6_operand ws_X6_operand dX6_value_131 rfl (Nat.le_of_ble_eq_true rfl) ⟨by decide, by decide, Nat.le_of_ble_eq_true rfl, Nat.le_of_ble_eq_true rfl⟩) (fun r22 S23 h => ?_)
            obtain ⟨g24, h⟩ := h
            refine y_iast (q0 := 37) (j := x2.toNatClampNeg) b (kw_37 cy a rw S23) (zx_r g24.1 g24.2) dX6_value_134 (kwa_37 cy a rw S23 (x2.toNatClampNeg) r22) ?_
            refine z_iinc (k9 := 4) (v := (x2 + 1)) (lv' := [(2, .int (x2 + 1)), (5, .int ((f17 x3.toNatClampNeg) - (f17 x3.toNatClampNeg) / 32 * 32)), (4, .int (f17 x3.toNatClampNeg)), (0, .ref (a 36)), (1, .ref x1), (3, .int x3)]) b dX6_value_135 rfl rfl (by decide) rfl ?_
            refine z_lv0 (lv' := [(0, .ref (a 36)), (1, .ref x1), (2, .int (x2 + 1)), (3, .int x3)]) [3, 4, 0, 5] rfl ?_
            exact z_X6_value_B138 hrw b hk4 hk144 _ _ _ _ h
      · replace h := h.2 c1
        refine z_iload_n b dX6_value_80 rfl rfl ?_
        refine y_if_le (tgt := 138) (xl := x2.toInt) b rfl dX6_value_81 (by decide) (fun c1 => ?_) (fun c1 => ?_)
        · replace h := h.1 c1
          refine z_lv0 (lv' := [(0, .ref (a 36)), (1, .ref x1), (2, .int x2), (3, .int x3)]) [2, 3, 4, 5] rfl ?_
          exact z_X6_value_B138 hrw b hk4 hk144 _ _ _ _ h
        · replace h := h.2 c1
          refine z_aload_n b dX6_value_84 rfl rfl ?_
          refine z_get (q0 := 36) (k9 := 0) (v := .ref (a 37)) b (kw_36 cy a rw S21) rfl in_X6 (by decide) wf_X6_11 rfl dX6_value_85 ?_
          refine z_iload_n b dX6_value_88 rfl rfl ?_
          refine z_iconst (v := 1) b dX6_value_89 (by decide) ?_
          refine z_isub b dX6_value_90 rfl ?_
          refine z_iconst (v := 1) b dX6_value_91 (by decide) ?_
          refine z_aload_n b dX6_value_92 rfl rfl ?_
          refine z_get (q0 := 36) (k9 := 0) (v := .ref (a 37)) b (kw_36 cy a rw S21) rfl in_X6 (by decide) wf_X6_11 rfl dX6_value_93 ?_
          refine z_iload_n b dX6_value_96 rfl rfl ?_
          refine z_iconst (v := 1) b dX6_value_97 (by decide) ?_
          refine z_isub b dX6_value_98 rfl ?_
          obtain ⟨g25, h⟩ := h
          refine y_iald (q0 := 37) (j := (x2 - 1).toNatClampNeg) (v := ((ar S21.1 16) (x2 - 1).toNatClampNeg)) b (kw_37 cy a rw S21) (zx_r g25.1 g25.2) rfl dX6_value_99 ?_
          refine z_isub b dX6_value_100 rfl ?_
          obtain ⟨g26, h⟩ := h
          refine y_iast (q0 := 37) (j := (x2 - 1).toNatClampNeg) b (kw_37 cy a rw S21) (zx_r g26.1 g26.2) dX6_value_101 (kwa_37 cy a rw S21 ((x2 - 1).toNatClampNeg) ((1 : Int32) - ((ar S21.1 16) (x2 - 1).toNatClampNeg))) ?_
          refine z_goto (tgt := 138) b dX6_value_102 (by decide) ?_
          refine z_lv0 (lv' := [(0, .ref (a 36)), (1, .ref x1), (2, .int x2), (3, .int x3)]) [2, 3, 4, 5] rfl ?_
          exact z_X6_value_B138 hrw b hk4 hk144 _ _ _ _ h
    · replace h := h.2 c1
      refine z_iinc (k9 := 4) (v := (x2 + (-1))) (lv' := [(2, .int (x2 + (-1))), (5, .int ((f17 x3.toNatClampNeg) - (f17 x3.toNatClampNeg) / 32 * 32)), (4, .int (f17 x3.toNatClampNeg)), (0, .ref (a 36)), (1, .ref x1), (3, .int x3)]) b dX6_value_36 rfl rfl (by decide) rfl ?_
      refine z_iload_n b dX6_value_39 rfl rfl ?_
      refine y_if_le (tgt := 138) (xl := (x2 + (-1)).toInt) b rfl dX6_value_40 (by decide) (fun c1 => ?_) (fun c1 => ?_)
      · replace h := h.1 c1
        refine z_lv0 (lv' := [(0, .ref (a 36)), (1, .ref x1), (2, .int (x2 + (-1))), (3, .int x3)]) [3, 4, 0, 5] rfl ?_
        exact z_X6_value_B138 hrw b hk4 hk144 _ _ _ _ h
      · replace h := h.2 c1
        refine z_aload_n b dX6_value_43 rfl rfl ?_
        refine z_get (q0 := 36) (k9 := 0) (v := .ref (a 37)) b (kw_36 cy a rw S21) rfl in_X6 (by decide) wf_X6_11 rfl dX6_value_44 ?_
        refine z_iload_n b dX6_value_47 rfl rfl ?_
        refine z_iconst (v := 1) b dX6_value_48 (by decide) ?_
        refine z_isub b dX6_value_49 rfl ?_
        refine z_iload b dX6_value_50 rfl ?_
        refine z_aload_n b dX6_value_52 rfl rfl ?_
        refine z_get (q0 := 36) (k9 := 0) (v := .ref (a 37)) b (kw_36 cy a rw S21) rfl in_X6 (by decide) wf_X6_11 rfl dX6_value_53 ?_
        refine z_iload_n b dX6_value_56 rfl rfl ?_
        refine z_iconst (v := 1) b dX6_value_57 (by decide) ?_
        refine z_isub b dX6_value_58 rfl ?_
        obtain ⟨g27, h⟩ := h
        refine y_iald (q0 := 37) (j := ((x2 + (-1)) - 1).toNatClampNeg) (v := ((ar S21.1 16) ((x2 + (-1)) - 1).toNatClampNeg)) b (kw_37 cy a rw S21) (zx_r g27.1 g27.2) rfl dX6_value_59 ?_
        refine z_aload_n b dX6_value_60 rfl rfl ?_
        refine z_get (q0 := 36) (k9 := 0) (v := .ref (a 37)) b (kw_36 cy a rw S21) rfl in_X6 (by decide) wf_X6_11 rfl dX6_value_61 ?_
        refine z_iload_n b dX6_value_64 rfl rfl ?_
        obtain ⟨g28, h⟩ := h
        refine y_iald (q0 := 37) (j := (x2 + (-1)).toNatClampNeg) (v := ((ar S21.1 16) (x2 + (-1)).toNatClampNeg)) b (kw_37 cy a rw S21) (zx_r g28.1 g28.2) rfl dX6_value_65 ?_
        refine z_calli b (z_runS (As := [.int ((f17 x3.toNatClampNeg) - (f17 x3.toNatClampNeg) / 32 * 32), .int ((ar S21.1 16) ((x2 + (-1)) - 1).toNatClampNeg), .int ((ar S21.1 16) (x2 + (-1)).toNatClampNeg)]) (st := [.int ((x2 + (-1)) - 1), .ref (a 37)]) b (k_X6_joined hrw S21 ((f17 x3.toNatClampNeg) - (f17 x3.toNatClampNeg) / 32 * 32) ((ar S21.1 16) ((x2 + (-1)) - 1).toNatClampNeg) ((ar S21.1 16) (x2 + (-1)).toNatClampNeg) _ h) cf_X6_joined wm_X6_53 ws_X6_joined dX6_value_66 rfl (Nat.le_of_ble_eq_true rfl) ⟨by decide, by decide, Nat.le_of_ble_eq_true rfl, Nat.le_of_ble_eq_true rfl⟩) (fun r29 S30 h => ?_)
        obtain ⟨g31, h⟩ := h
        refine y_iast (q0 := 37) (j := ((x2 + (-1)) - 1).toNatClampNeg) b (kw_37 cy a rw S30) (zx_r g31.1 g31.2) dX6_value_69 (kwa_37 cy a rw S30 (((x2 + (-1)) - 1).toNatClampNeg) r29) ?_
        refine z_goto (tgt := 138) b dX6_value_70 (by decide) ?_
        refine z_lv0 (lv' := [(0, .ref (a 36)), (1, .ref x1), (2, .int (x2 + (-1))), (3, .int x3)]) [3, 4, 0, 5] rfl ?_
        exact z_X6_value_B138 hrw b hk4 hk144 _ _ _ _ h

set_option maxHeartbeats 200000 in
set_option maxRecDepth 100000 in
theorem zl_X6_value_L4 {p : Program} {l : Launch} {e : Env} {R : Room} {s : State} {m : MethodId} {args : Array Value} {below : List Frame} {meth : Method} {c : Code} {D : va_G} {cy : Nat → ClassId} {T0 tB tE : Nat} {A : Nat → Prop} {a : Nat → Nat} {rw : Nat → Option Nat} (hrw : ∀ i, i < 6 → rw i = some (a (12 + 2 * i))) {post : Int32 → KS → Prop} {k144 : KS → Int32 → Prop} (b : Bz p R s m args meth c D cy T0 tB tE A 6 cX6_value RX6 (some .int) "value" 2 47 0 0) (hk144 : ∀ (S : KS) (x2 : Int32), k144 S x2 → Z p l e R s m args below meth c D A 6 (MQ below (QI D (U := KS) post (kw cy a rw) A) args s 0 0 A) 0 0 (kw cy a rw S) [(0, .ref (a 36)), (2, .int x2)] 144 []) : ∀ (n : Nat) (S : KS) (x1 : Nat) (x2 : Int32) (x3 : Int32), lpn (w_X6_value_F4 cy tE post k144) (fun _ _ _ _ => False) n S x1 x2 x3 → Z p l e R s m args below meth c D A 6 (MQ below (QI D (U := KS) post (kw cy a rw) A) args s 0 0 A) 0 0 (kw cy a rw S) [(0, .ref (a 36)), (1, .ref x1), (2, .int x2), (3, .int x3)] 4 [] := by
  intro n
  induction n with
  | zero => intro _ _ _ _ h; exact h.elim
  | succ n ih => intro S x1 x2 x3 h; exact z_X6_value_F4 hrw b hk144 ih S x1 x2 x3 h

def w_X6_value_B158 (cy : Nat → ClassId) (tE : Nat) (post : Int32 → KS → Prop) (S : KS) (y0 : Int32) : Prop :=
  post y0 S

set_option maxHeartbeats 200000 in
set_option maxRecDepth 100000 in
theorem z_X6_value_B158 {p : Program} {l : Launch} {e : Env} {R : Room} {s : State} {m : MethodId} {args : Array Value} {below : List Frame} {meth : Method} {c : Code} {D : va_G} {cy : Nat → ClassId} {T0 tB tE : Nat} {A : Nat → Prop} {a : Nat → Nat} {rw : Nat → Option Nat} (hrw : ∀ i, i < 6 → rw i = some (a (12 + 2 * i))) {post : Int32 → KS → Prop} (b : Bz p R s m args meth c D cy T0 tB tE A 6 cX6_value RX6 (some .int) "value" 2 47 0 0) (S : KS) (y0 : Int32) (h : w_X6_value_B158 cy tE post S y0) : Z p l e R s m args below meth c D A 6 (MQ below (QI D (U := KS) post (kw cy a rw) A) args s 0 0 A) 0 0 (kw cy a rw S) [] 158 [.int y0] := by
  unfold w_X6_value_B158 at h
  exact z_iret (u := S) b rfl dX6_value_158 h rfl (by decide) (by decide)

def w_X6_value_B144 (cy : Nat → ClassId) (tE : Nat) (post : Int32 → KS → Prop) (S : KS) (x2 : Int32) : Prop :=
  ((x2.toInt ≤ 0 → w_X6_value_B158 cy tE post S 0) ∧ (0 < x2.toInt → w_X6_value_B158 cy tE post S ((ar S.1 16) 0)))

set_option maxHeartbeats 200000 in
set_option maxRecDepth 100000 in
theorem z_X6_value_B144 {p : Program} {l : Launch} {e : Env} {R : Room} {s : State} {m : MethodId} {args : Array Value} {below : List Frame} {meth : Method} {c : Code} {D : va_G} {cy : Nat → ClassId} {T0 tB tE : Nat} {A : Nat → Prop} {a : Nat → Nat} {rw : Nat → Option Nat} (hrw : ∀ i, i < 6 → rw i = some (a (12 + 2 * i))) {post : Int32 → KS → Prop} (b : Bz p R s m args meth c D cy T0 tB tE A 6 cX6_value RX6 (some .int) "value" 2 47 0 0) (S : KS) (x2 : Int32) (h : w_X6_value_B144 cy tE post S x2) : Z p l e R s m args below meth c D A 6 (MQ below (QI D (U := KS) post (kw cy a rw) A) args s 0 0 A) 0 0 (kw cy a rw S) [(0, .ref (a 36)), (2, .int x2)] 144 [] := by
  unfold w_X6_value_B144 at h
  refine z_iload_n b dX6_value_144 rfl rfl ?_
  refine y_if_le (tgt := 157) (xl := x2.toInt) b rfl dX6_value_145 (by decide) (fun c1 => ?_) (fun c1 => ?_)
  · replace h := h.1 c1
    refine z_iconst (v := 0) b dX6_value_157 (by decide) ?_
    refine z_lv0 (lv' := []) [] rfl ?_
    exact z_X6_value_B158 hrw b _ _ h
  · replace h := h.2 c1
    refine z_aload_n b dX6_value_148 rfl rfl ?_
    refine z_get (q0 := 36) (k9 := 0) (v := .ref (a 37)) b (kw_36 cy a rw S) rfl in_X6 (by decide) wf_X6_11 rfl dX6_value_149 ?_
    refine z_iconst (v := 0) b dX6_value_152 (by decide) ?_
    refine y_iald (q0 := 37) (j := 0) (v := ((ar S.1 16) 0)) b (kw_37 cy a rw S) (by decide) rfl dX6_value_153 ?_
    refine z_goto (tgt := 158) b dX6_value_154 (by decide) ?_
    refine z_lv0 (lv' := []) [] rfl ?_
    exact z_X6_value_B158 hrw b _ _ h

def w_X6_value (cy : Nat → ClassId) (tE : Nat) (S : KS) (p0 : Nat) (post : Int32 → KS → Prop) : Prop :=
  ∃ n, lpn (w_X6_value_F4 cy tE post (w_X6_value_B144 cy tE post)) (fun _ _ _ _ => False) n S p0 0 0

set_option maxHeartbeats 200000 in
set_option maxRecDepth 100000 in
theorem k_X6_value {l : Launch} {D : va_G} {cy : Nat → ClassId} {T0 tB tE : Nat} {a : Nat → Nat} {rw : Nat → Option Nat} (hrw : ∀ i, i < 6 → rw i = some (a (12 + 2 * i))) (S : KS) (p0 : Nat) (post : Int32 → KS → Prop) (h : w_X6_value cy tE S p0 post) : Ct l D cy T0 tB tE yX6_value cX6_value 6 (some .int) 2 47 0 0 (kw cy a rw S) [.ref (a 36), .ref p0] (QI D (U := KS) post (kw cy a rw)) := by
  refine Ct.ofZ RX6 "value" [(0, .ref (a 36)), (1, .ref p0)] rfl rfl rfl rfl (Nat.le_of_ble_eq_true rfl) ?_
  intro p e R s m args below meth c A b
  unfold w_X6_value at h
  refine z_iconst (v := 0) b dX6_value_0 (by decide) ?_
  refine z_istore_n (lv' := [(2, .int 0), (0, .ref (a 36)), (1, .ref p0)]) b dX6_value_1 rfl (by decide) rfl ?_
  refine z_iconst (v := 0) b dX6_value_2 (by decide) ?_
  refine z_istore_n (lv' := [(3, .int 0), (2, .int 0), (0, .ref (a 36)), (1, .ref p0)]) b dX6_value_3 rfl (by decide) rfl ?_
  refine z_lv0 (lv' := [(0, .ref (a 36)), (1, .ref p0), (2, .int 0), (3, .int 0)]) [2, 3, 1, 0] rfl ?_
  obtain ⟨n, h⟩ := h
  exact zl_X6_value_L4 hrw b (fun S x2 h => z_X6_value_B144 hrw b _ _ h) n _ _ _ _ h

def w_X9_change_B179 (cy : Nat → ClassId) (tE : Nat) (post : KS → Prop) (S : KS)  : Prop :=
  post S

set_option maxHeartbeats 200000 in
set_option maxRecDepth 100000 in
theorem z_X9_change_B179 {p : Program} {l : Launch} {e : Env} {R : Room} {s : State} {m : MethodId} {args : Array Value} {below : List Frame} {meth : Method} {c : Code} {D : va_G} {cy : Nat → ClassId} {T0 tB tE : Nat} {A : Nat → Prop} {a : Nat → Nat} {rw : Nat → Option Nat} (hrw : ∀ i, i < 6 → rw i = some (a (12 + 2 * i))) {post : KS → Prop} (b : Bz p R s m args meth c D cy T0 tB tE A 7 cX9_change RX9 none "change" 1 22 0 0) (S : KS)  (h : w_X9_change_B179 cy tE post S ) : Z p l e R s m args below meth c D A 7 (MQ below (QV D (U := KS) post (kw cy a rw) A) args s 0 0 A) 0 0 (kw cy a rw S) [] 179 [] := by
  unfold w_X9_change_B179 at h
  exact z_vret (u := S) b rfl dX9_change_179 h rfl (by decide) (by decide)

def w_X9_change_B164 (cy : Nat → ClassId) (tE : Nat) (post : KS → Prop) (S : KS) (x0 : Nat) (x5 : Int32) : Prop :=
  (x0 < 5) ∧ w_X9_get cy tE S x0 50 (fun r17 S18 => (x0 < 5) ∧ w_X9_set cy tE S18 x0 50 (r17 + x5) (fun S21 => w_X9_change_B179 cy tE post S21))

set_option maxHeartbeats 200000 in
set_option maxRecDepth 100000 in
theorem z_X9_change_B164 {p : Program} {l : Launch} {e : Env} {R : Room} {s : State} {m : MethodId} {args : Array Value} {below : List Frame} {meth : Method} {c : Code} {D : va_G} {cy : Nat → ClassId} {T0 tB tE : Nat} {A : Nat → Prop} {a : Nat → Nat} {rw : Nat → Option Nat} (hrw : ∀ i, i < 6 → rw i = some (a (12 + 2 * i))) {post : KS → Prop} (b : Bz p R s m args meth c D cy T0 tB tE A 7 cX9_change RX9 none "change" 1 22 0 0) (S : KS) (x0 : Nat) (x5 : Int32) (h : w_X9_change_B164 cy tE post S x0 x5) : Z p l e R s m args below meth c D A 7 (MQ below (QV D (U := KS) post (kw cy a rw) A) args s 0 0 A) 0 0 (kw cy a rw S) [(0, .ref (a (2 + 2 * x0))), (5, .int x5)] 164 [] := by
  unfold w_X9_change_B164 at h
  refine z_aload_n b dX9_change_164 rfl rfl ?_
  refine z_bipush (v := 50) b dX9_change_165 (by decide) ?_
  refine z_aload_n b dX9_change_167 rfl rfl ?_
  refine z_bipush (v := 50) b dX9_change_168 (by decide) ?_
  obtain ⟨g16, h⟩ := h
  refine z_calli b (z_runV (q0 := 2 + 2 * x0) (As := [.int 50]) (st := [.int 50, .ref (a (2 + 2 * x0))]) b (k_X9_get hrw S x0 50 _ h) cf_X9_get (kw_so cy a rw S g16) rfl wm_X9_32 wi_X9_get ws_X9_get dX9_change_170 rfl (Nat.le_of_ble_eq_true rfl) ⟨by decide, by decide, Nat.le_of_ble_eq_true rfl, Nat.le_of_ble_eq_true rfl⟩) (fun r17 S18 h => ?_)
  refine z_iload b dX9_change_173 rfl ?_
  refine z_iadd b dX9_change_175 rfl ?_
  obtain ⟨g19, h⟩ := h
  refine z_callv b (z_runV (q0 := 2 + 2 * x0) (As := [.int 50, .int (r17 + x5)]) (st := []) b (k_X9_set hrw S18 x0 50 (r17 + x5) _ h) cf_X9_set (kw_so cy a rw S18 g19) rfl wm_X9_36 wi_X9_set ws_X9_set dX9_change_176 rfl (Nat.le_of_ble_eq_true rfl) ⟨by decide, by decide, Nat.le_of_ble_eq_true rfl, Nat.le_of_ble_eq_true rfl⟩) (fun S21 h => ?_)
  refine z_lv0 (lv' := []) [] rfl ?_
  exact z_X9_change_B179 hrw b _ h

def w_X9_change_B145 (cy : Nat → ClassId) (tE : Nat) (post : KS → Prop) (S : KS) (y0 : Int32) (y1 : Int32) (y2 : Nat) : Prop :=
  (y2 < 5) ∧ w_X9_set cy tE S y2 y1 y0 (fun S27 => w_X9_change_B179 cy tE post S27)

set_option maxHeartbeats 200000 in
set_option maxRecDepth 100000 in
theorem z_X9_change_B145 {p : Program} {l : Launch} {e : Env} {R : Room} {s : State} {m : MethodId} {args : Array Value} {below : List Frame} {meth : Method} {c : Code} {D : va_G} {cy : Nat → ClassId} {T0 tB tE : Nat} {A : Nat → Prop} {a : Nat → Nat} {rw : Nat → Option Nat} (hrw : ∀ i, i < 6 → rw i = some (a (12 + 2 * i))) {post : KS → Prop} (b : Bz p R s m args meth c D cy T0 tB tE A 7 cX9_change RX9 none "change" 1 22 0 0) (S : KS) (y0 : Int32) (y1 : Int32) (y2 : Nat) (h : w_X9_change_B145 cy tE post S y0 y1 y2) : Z p l e R s m args below meth c D A 7 (MQ below (QV D (U := KS) post (kw cy a rw) A) args s 0 0 A) 0 0 (kw cy a rw S) [] 145 [.int y0, .int y1, .ref (a (2 + 2 * y2))] := by
  unfold w_X9_change_B145 at h
  obtain ⟨g25, h⟩ := h
  refine z_callv b (z_runV (q0 := 2 + 2 * y2) (As := [.int y1, .int y0]) (st := []) b (k_X9_set hrw S y2 y1 y0 _ h) cf_X9_set (kw_so cy a rw S g25) rfl wm_X9_36 wi_X9_set ws_X9_set dX9_change_145 rfl (Nat.le_of_ble_eq_true rfl) ⟨by decide, by decide, Nat.le_of_ble_eq_true rfl, Nat.le_of_ble_eq_true rfl⟩) (fun S27 h => ?_)
  refine z_goto (tgt := 179) b dX9_change_148 (by decide) ?_
  exact z_X9_change_B179 hrw b _ h

def w_X9_change_B122 (cy : Nat → ClassId) (tE : Nat) (post : KS → Prop) (S : KS) (x0 : Nat) (x1 : Int32) (x2 : Int32) (x3 : Int32) (y0 : Int32) (y1 : Int32) (y2 : Nat) : Prop :=
  (y2 < 5) ∧ w_X9_set cy tE S y2 y1 y0 (fun S24 => ((x1.toInt ≠ 11 → w_X9_change_B145 cy tE post S24 0 (((20 : Int32) + ((3 : Int32) * x3)) + x2) x0) ∧ (x1.toInt = 11 → w_X9_change_B145 cy tE post S24 1 (((20 : Int32) + ((3 : Int32) * x3)) + x2) x0)))

set_option maxHeartbeats 200000 in
set_option maxRecDepth 100000 in
theorem z_X9_change_B122 {p : Program} {l : Launch} {e : Env} {R : Room} {s : State} {m : MethodId} {args : Array Value} {below : List Frame} {meth : Method} {c : Code} {D : va_G} {cy : Nat → ClassId} {T0 tB tE : Nat} {A : Nat → Prop} {a : Nat → Nat} {rw : Nat → Option Nat} (hrw : ∀ i, i < 6 → rw i = some (a (12 + 2 * i))) {post : KS → Prop} (b : Bz p R s m args meth c D cy T0 tB tE A 7 cX9_change RX9 none "change" 1 22 0 0) (S : KS) (x0 : Nat) (x1 : Int32) (x2 : Int32) (x3 : Int32) (y0 : Int32) (y1 : Int32) (y2 : Nat) (h : w_X9_change_B122 cy tE post S x0 x1 x2 x3 y0 y1 y2) : Z p l e R s m args below meth c D A 7 (MQ below (QV D (U := KS) post (kw cy a rw) A) args s 0 0 A) 0 0 (kw cy a rw S) [(0, .ref (a (2 + 2 * x0))), (1, .int x1), (2, .int x2), (3, .int x3)] 122 [.int y0, .int y1, .ref (a (2 + 2 * y2))] := by
  unfold w_X9_change_B122 at h
  obtain ⟨g22, h⟩ := h
  refine z_callv b (z_runV (q0 := 2 + 2 * y2) (As := [.int y1, .int y0]) (st := []) b (k_X9_set hrw S y2 y1 y0 _ h) cf_X9_set (kw_so cy a rw S g22) rfl wm_X9_36 wi_X9_set ws_X9_set dX9_change_122 rfl (Nat.le_of_ble_eq_true rfl) ⟨by decide, by decide, Nat.le_of_ble_eq_true rfl, Nat.le_of_ble_eq_true rfl⟩) (fun S24 h => ?_)
  refine z_aload_n b dX9_change_125 rfl rfl ?_
  refine z_bipush (v := 20) b dX9_change_126 (by decide) ?_
  refine z_iconst (v := 3) b dX9_change_128 (by decide) ?_
  refine z_iload_n b dX9_change_129 rfl rfl ?_
  refine z_imul b dX9_change_130 rfl ?_
  refine z_iadd b dX9_change_131 rfl ?_
  refine z_iload_n b dX9_change_132 rfl rfl ?_
  refine z_iadd b dX9_change_133 rfl ?_
  refine z_iload_n b dX9_change_134 rfl rfl ?_
  refine z_bipush (v := 11) b dX9_change_135 (by decide) ?_
  refine y_icmp_ne (tgt := 144) (xl := x1.toInt) (yl := 11) b rfl (by decide) dX9_change_137 (by decide) (fun c1 => ?_) (fun c1 => ?_)
  · replace h := h.1 c1
    refine z_iconst (v := 0) b dX9_change_144 (by decide) ?_
    refine z_lv0 (lv' := []) [] rfl ?_
    exact z_X9_change_B145 hrw b _ _ _ _ h
  · replace h := h.2 c1
    refine z_iconst (v := 1) b dX9_change_140 (by decide) ?_
    refine z_goto (tgt := 145) b dX9_change_141 (by decide) ?_
    refine z_lv0 (lv' := []) [] rfl ?_
    exact z_X9_change_B145 hrw b _ _ _ _ h

def w_X9_change_B105 (cy : Nat → ClassId) (tE : Nat) (post : KS → Prop) (S : KS) (x0 : Nat) (x1 : Int32) (x2 : Int32) (x3 : Int32) (x6 : Int32) : Prop :=
  ((x1.toInt ≠ 11 → w_X9_change_B122 cy tE post S x0 x1 x2 x3 0 ((20 : Int32) + x6) x0) ∧ (x1.toInt = 11 → w_X9_change_B122 cy tE post S x0 x1 x2 x3 1 ((20 : Int32) + x6) x0))

set_option maxHeartbeats 200000 in
set_option maxRecDepth 100000 in
theorem z_X9_change_B105 {p : Program} {l : Launch} {e : Env} {R : Room} {s : State} {m : MethodId} {args : Array Value} {below : List Frame} {meth : Method} {c : Code} {D : va_G} {cy : Nat → ClassId} {T0 tB tE : Nat} {A : Nat → Prop} {a : Nat → Nat} {rw : Nat → Option Nat} (hrw : ∀ i, i < 6 → rw i = some (a (12 + 2 * i))) {post : KS → Prop} (b : Bz p R s m args meth c D cy T0 tB tE A 7 cX9_change RX9 none "change" 1 22 0 0) (S : KS) (x0 : Nat) (x1 : Int32) (x2 : Int32) (x3 : Int32) (x6 : Int32) (h : w_X9_change_B105 cy tE post S x0 x1 x2 x3 x6) : Z p l e R s m args below meth c D A 7 (MQ below (QV D (U := KS) post (kw cy a rw) A) args s 0 0 A) 0 0 (kw cy a rw S) [(0, .ref (a (2 + 2 * x0))), (1, .int x1), (2, .int x2), (3, .int x3), (6, .int x6)] 105 [] := by
  unfold w_X9_change_B105 at h
  refine z_aload_n b dX9_change_105 rfl rfl ?_
  refine z_bipush (v := 20) b dX9_change_106 (by decide) ?_
  refine z_iload b dX9_change_108 rfl ?_
  refine z_iadd b dX9_change_110 rfl ?_
  refine z_iload_n b dX9_change_111 rfl rfl ?_
  refine z_bipush (v := 11) b dX9_change_112 (by decide) ?_
  refine y_icmp_ne (tgt := 121) (xl := x1.toInt) (yl := 11) b rfl (by decide) dX9_change_114 (by decide) (fun c1 => ?_) (fun c1 => ?_)
  · replace h := h.1 c1
    refine z_iconst (v := 0) b dX9_change_121 (by decide) ?_
    refine z_lv0 (lv' := [(0, .ref (a (2 + 2 * x0))), (1, .int x1), (2, .int x2), (3, .int x3)]) [0, 1, 2, 3] rfl ?_
    exact z_X9_change_B122 hrw b _ _ _ _ _ _ _ _ h
  · replace h := h.2 c1
    refine z_iconst (v := 1) b dX9_change_117 (by decide) ?_
    refine z_goto (tgt := 122) b dX9_change_118 (by decide) ?_
    refine z_lv0 (lv' := [(0, .ref (a (2 + 2 * x0))), (1, .int x1), (2, .int x2), (3, .int x3)]) [0, 1, 2, 3] rfl ?_
    exact z_X9_change_B122 hrw b _ _ _ _ _ _ _ _ h

def w_X9_change (cy : Nat → ClassId) (tE : Nat) (S : KS) (p9 : Nat) (p0 : Int32) (p1 : Int32) (p2 : Int32) (p3 : Int32) (p4 : Int32) (post : KS → Prop) : Prop :=
  ((p0.toInt = 7 → (p9 < 5) ∧ w_X9_get cy tE S p9 p1 (fun r2 S3 => (p9 < 5) ∧ w_X9_set cy tE S3 p9 p1 (r2 + p4) (fun S6 => w_X9_change_B179 cy tE post S6))) ∧ (p0.toInt = 8 → (p9 < 5) ∧ w_X9_get cy tE S p9 ((10 : Int32) + (((3 : Int32) * p1) + p2)) (fun r8 S9 => (p9 < 5) ∧ w_X9_set cy tE S9 p9 ((10 : Int32) + (((3 : Int32) * p1) + p2)) (r8 + p4) (fun S12 => w_X9_change_B179 cy tE post S12))) ∧ (p0.toInt = 9 → (p9 < 5) ∧ w_X9_set cy tE S p9 ((40 : Int32) + p3) p1 (fun S15 => w_X9_change_B179 cy tE post S15)) ∧ (p0.toInt = 10 → w_X9_change_B164 cy tE post S p9 p4) ∧ (p0.toInt = 11 → w_X9_change_B105 cy tE post S p9 p0 p1 p2 (((3 : Int32) * p1) + p2)) ∧ (p0.toInt = 12 → w_X9_change_B105 cy tE post S p9 p0 p1 p2 (((3 : Int32) * p1) + p2)) ∧ (p0.toInt = 13 → (p9 < 5) ∧ w_X9_set cy tE S p9 ((30 : Int32) + (((3 : Int32) * p1) + p2)) 1 (fun S30 => w_X9_change_B179 cy tE post S30)) ∧ (p0.toInt ≠ 7 ∧ p0.toInt ≠ 8 ∧ p0.toInt ≠ 9 ∧ p0.toInt ≠ 10 ∧ p0.toInt ≠ 11 ∧ p0.toInt ≠ 12 ∧ p0.toInt ≠ 13 → w_X9_change_B164 cy tE post S p9 p4))

set_option maxHeartbeats 200000 in
set_option maxRecDepth 100000 in
theorem k_X9_change {l : Launch} {D : va_G} {cy : Nat → ClassId} {T0 tB tE : Nat} {a : Nat → Nat} {rw : Nat → Option Nat} (hrw : ∀ i, i < 6 → rw i = some (a (12 + 2 * i))) (S : KS) (p9 : Nat) (p0 : Int32) (p1 : Int32) (p2 : Int32) (p3 : Int32) (p4 : Int32) (post : KS → Prop) (h : w_X9_change cy tE S p9 p0 p1 p2 p3 p4 post) : Ct l D cy T0 tB tE yX9_change cX9_change 7 none 1 22 0 0 (kw cy a rw S) [.ref (a (2 + 2 * p9)), .int p0, .int p1, .int p2, .int p3, .int p4] (QV D (U := KS) post (kw cy a rw)) := by
  refine Ct.ofZ RX9 "change" [(0, .ref (a (2 + 2 * p9))), (1, .int p0), (2, .int p1), (3, .int p2), (4, .int p3), (5, .int p4)] rfl rfl rfl rfl (Nat.le_of_ble_eq_true rfl) ?_
  intro p e R s m args below meth c A b
  unfold w_X9_change at h
  refine z_iconst (v := 3) b dX9_change_0 (by decide) ?_
  refine z_iload_n b dX9_change_1 rfl rfl ?_
  refine z_imul b dX9_change_2 rfl ?_
  refine z_iload_n b dX9_change_3 rfl rfl ?_
  refine z_iadd b dX9_change_4 rfl ?_
  refine z_istore (lv' := [(6, .int (((3 : Int32) * p1) + p2)), (0, .ref (a (2 + 2 * p9))), (1, .int p0), (2, .int p1), (3, .int p2), (4, .int p3), (5, .int p4)]) b dX9_change_5 (by decide) rfl ?_
  refine z_iload_n b dX9_change_7 rfl rfl ?_
  by_cases e1 : p0.toInt = 7
  · replace h := h.1 e1
    refine z_eqi (y := 7) (y_eqc e1 (by decide)) ?_
    refine z_tableIn (tgt := 52) (off := 44) b dX9_change_8 (by decide) (by decide) (by decide) (by decide) ?_
    refine z_aload_n b dX9_change_52 rfl rfl ?_
    refine z_iload_n b dX9_change_53 rfl rfl ?_
    refine z_aload_n b dX9_change_54 rfl rfl ?_
    refine z_iload_n b dX9_change_55 rfl rfl ?_
    obtain ⟨g1, h⟩ := h
    refine z_calli b (z_runV (q0 := 2 + 2 * p9) (As := [.int p1]) (st := [.int p1, .ref (a (2 + 2 * p9))]) b (k_X9_get hrw S p9 p1 _ h) cf_X9_get (kw_so cy a rw S g1) rfl wm_X9_32 wi_X9_get ws_X9_get dX9_change_56 rfl (Nat.le_of_ble_eq_true rfl) ⟨by decide, by decide, Nat.le_of_ble_eq_true rfl, Nat.le_of_ble_eq_true rfl⟩) (fun r2 S3 h => ?_)
    refine z_iload b dX9_change_59 rfl ?_
    refine z_iadd b dX9_change_61 rfl ?_
    obtain ⟨g4, h⟩ := h
    refine z_callv b (z_runV (q0 := 2 + 2 * p9) (As := [.int p1, .int (r2 + p4)]) (st := []) b (k_X9_set hrw S3 p9 p1 (r2 + p4) _ h) cf_X9_set (kw_so cy a rw S3 g4) rfl wm_X9_36 wi_X9_set ws_X9_set dX9_change_62 rfl (Nat.le_of_ble_eq_true rfl) ⟨by decide, by decide, Nat.le_of_ble_eq_true rfl, Nat.le_of_ble_eq_true rfl⟩) (fun S6 h => ?_)
    refine z_goto (tgt := 179) b dX9_change_65 (by decide) ?_
    refine z_lv0 (lv' := []) [] rfl ?_
    exact z_X9_change_B179 hrw b _ h
  replace h := h.2
  have o0 := e1
  by_cases e1 : p0.toInt = 8
  · replace h := h.1 e1
    refine z_eqi (y := 8) (y_eqc e1 (by decide)) ?_
    refine z_tableIn (tgt := 68) (off := 60) b dX9_change_8 (by decide) (by decide) (by decide) (by decide) ?_
    refine z_aload_n b dX9_change_68 rfl rfl ?_
    refine z_bipush (v := 10) b dX9_change_69 (by decide) ?_
    refine z_iload b dX9_change_71 rfl ?_
    refine z_iadd b dX9_change_73 rfl ?_
    refine z_aload_n b dX9_change_74 rfl rfl ?_
    refine z_bipush (v := 10) b dX9_change_75 (by decide) ?_
    refine z_iload b dX9_change_77 rfl ?_
    refine z_iadd b dX9_change_79 rfl ?_
    obtain ⟨g7, h⟩ := h
    refine z_calli b (z_runV (q0 := 2 + 2 * p9) (As := [.int ((10 : Int32) + (((3 : Int32) * p1) + p2))]) (st := [.int ((10 : Int32) + (((3 : Int32) * p1) + p2)), .ref (a (2 + 2 * p9))]) b (k_X9_get hrw S p9 ((10 : Int32) + (((3 : Int32) * p1) + p2)) _ h) cf_X9_get (kw_so cy a rw S g7) rfl wm_X9_32 wi_X9_get ws_X9_get dX9_change_80 rfl (Nat.le_of_ble_eq_true rfl) ⟨by decide, by decide, Nat.le_of_ble_eq_true rfl, Nat.le_of_ble_eq_true rfl⟩) (fun r8 S9 h => ?_)
    refine z_iload b dX9_change_83 rfl ?_
    refine z_iadd b dX9_change_85 rfl ?_
    obtain ⟨g10, h⟩ := h
    refine z_callv b (z_runV (q0 := 2 + 2 * p9) (As := [.int ((10 : Int32) + (((3 : Int32) * p1) + p2)), .int (r8 + p4)]) (st := []) b (k_X9_set hrw S9 p9 ((10 : Int32) + (((3 : Int32) * p1) + p2)) (r8 + p4) _ h) cf_X9_set (kw_so cy a rw S9 g10) rfl wm_X9_36 wi_X9_set ws_X9_set dX9_change_86 rfl (Nat.le_of_ble_eq_true rfl) ⟨by decide, by decide, Nat.le_of_ble_eq_true rfl, Nat.le_of_ble_eq_true rfl⟩) (fun S12 h => ?_)
    refine z_goto (tgt := 179) b dX9_change_89 (by decide) ?_
    refine z_lv0 (lv' := []) [] rfl ?_
    exact z_X9_change_B179 hrw b _ h
  replace h := h.2
  have o1 := e1
  by_cases e1 : p0.toInt = 9
  · replace h := h.1 e1
    refine z_eqi (y := 9) (y_eqc e1 (by decide)) ?_
    refine z_tableIn (tgt := 92) (off := 84) b dX9_change_8 (by decide) (by decide) (by decide) (by decide) ?_
    refine z_aload_n b dX9_change_92 rfl rfl ?_
    refine z_bipush (v := 40) b dX9_change_93 (by decide) ?_
    refine z_iload b dX9_change_95 rfl ?_
    refine z_iadd b dX9_change_97 rfl ?_
    refine z_iload_n b dX9_change_98 rfl rfl ?_
    obtain ⟨g13, h⟩ := h
    refine z_callv b (z_runV (q0 := 2 + 2 * p9) (As := [.int ((40 : Int32) + p3), .int p1]) (st := []) b (k_X9_set hrw S p9 ((40 : Int32) + p3) p1 _ h) cf_X9_set (kw_so cy a rw S g13) rfl wm_X9_36 wi_X9_set ws_X9_set dX9_change_99 rfl (Nat.le_of_ble_eq_true rfl) ⟨by decide, by decide, Nat.le_of_ble_eq_true rfl, Nat.le_of_ble_eq_true rfl⟩) (fun S15 h => ?_)
    refine z_goto (tgt := 179) b dX9_change_102 (by decide) ?_
    refine z_lv0 (lv' := []) [] rfl ?_
    exact z_X9_change_B179 hrw b _ h
  replace h := h.2
  have o2 := e1
  by_cases e1 : p0.toInt = 10
  · replace h := h.1 e1
    refine z_eqi (y := 10) (y_eqc e1 (by decide)) ?_
    refine z_tableIn (tgt := 164) (off := 156) b dX9_change_8 (by decide) (by decide) (by decide) (by decide) ?_
    refine z_lv0 (lv' := [(0, .ref (a (2 + 2 * p9))), (5, .int p4)]) [1, 6] rfl ?_
    exact z_X9_change_B164 hrw b _ _ _ h
  replace h := h.2
  have o3 := e1
  by_cases e1 : p0.toInt = 11
  · replace h := h.1 e1
    refine z_eqi (y := 11) (y_eqc e1 (by decide)) ?_
    refine z_tableIn (tgt := 105) (off := 97) b dX9_change_8 (by decide) (by decide) (by decide) (by decide) ?_
    refine z_lv0 (lv' := [(0, .ref (a (2 + 2 * p9))), (1, .int p0), (2, .int p1), (3, .int p2), (6, .int (((3 : Int32) * p1) + p2))]) [1, 2, 3, 4, 0] rfl ?_
    exact z_X9_change_B105 hrw b _ _ _ _ _ _ h
  replace h := h.2
  have o4 := e1
  by_cases e1 : p0.toInt = 12
  · replace h := h.1 e1
    refine z_eqi (y := 12) (y_eqc e1 (by decide)) ?_
    refine z_tableIn (tgt := 105) (off := 97) b dX9_change_8 (by decide) (by decide) (by decide) (by decide) ?_
    refine z_lv0 (lv' := [(0, .ref (a (2 + 2 * p9))), (1, .int p0), (2, .int p1), (3, .int p2), (6, .int (((3 : Int32) * p1) + p2))]) [1, 2, 3, 4, 0] rfl ?_
    exact z_X9_change_B105 hrw b _ _ _ _ _ _ h
  replace h := h.2
  have o5 := e1
  by_cases e1 : p0.toInt = 13
  · replace h := h.1 e1
    refine z_eqi (y := 13) (y_eqc e1 (by decide)) ?_
    refine z_tableIn (tgt := 151) (off := 143) b dX9_change_8 (by decide) (by decide) (by decide) (by decide) ?_
    refine z_aload_n b dX9_change_151 rfl rfl ?_
    refine z_bipush (v := 30) b dX9_change_152 (by decide) ?_
    refine z_iload b dX9_change_154 rfl ?_
    refine z_iadd b dX9_change_156 rfl ?_
    refine z_iconst (v := 1) b dX9_change_157 (by decide) ?_
    obtain ⟨g28, h⟩ := h
    refine z_callv b (z_runV (q0 := 2 + 2 * p9) (As := [.int ((30 : Int32) + (((3 : Int32) * p1) + p2)), .int 1]) (st := []) b (k_X9_set hrw S p9 ((30 : Int32) + (((3 : Int32) * p1) + p2)) 1 _ h) cf_X9_set (kw_so cy a rw S g28) rfl wm_X9_36 wi_X9_set ws_X9_set dX9_change_158 rfl (Nat.le_of_ble_eq_true rfl) ⟨by decide, by decide, Nat.le_of_ble_eq_true rfl, Nat.le_of_ble_eq_true rfl⟩) (fun S30 h => ?_)
    refine z_goto (tgt := 179) b dX9_change_161 (by decide) ?_
    refine z_lv0 (lv' := []) [] rfl ?_
    exact z_X9_change_B179 hrw b _ h
  replace h := h.2
  have o6 := e1
  replace h := h ⟨o0, o1, o2, o3, o4, o5, o6⟩
  refine z_tableOut (tgt := 164) b dX9_change_8 (by omega) (by decide) ?_
  refine z_lv0 (lv' := [(0, .ref (a (2 + 2 * p9))), (5, .int p4)]) [1, 6] rfl ?_
  exact z_X9_change_B164 hrw b _ _ _ h

def w_X9_isInBounds_F2 (cy : Nat → ClassId) (tE : Nat) (post : Int32 → KS → Prop) (k29 : KS → Nat → Prop) (k2 : KS → Nat → Int32 → Prop) (S : KS) (x0 : Nat) (x1 : Int32) : Prop :=
  ((3 ≤ x1.toInt → k29 S x0) ∧ (x1.toInt < 3 → (x0 < 5) ∧ (x0 < 5) ∧ (0 ≤ x1.toInt ∧ x1.toInt < 51) ∧ w_X11_isWithin cy tE S ((ar S.1 (1 + x0)) x1.toNatClampNeg) 15 (fun r4 S5 => ((r4.toInt ≠ 0 → k2 S5 x0 (x1 + 1)) ∧ (r4.toInt = 0 → post 0 S5)))))

set_option maxHeartbeats 200000 in
set_option maxRecDepth 100000 in
theorem z_X9_isInBounds_F2 {p : Program} {l : Launch} {e : Env} {R : Room} {s : State} {m : MethodId} {args : Array Value} {below : List Frame} {meth : Method} {c : Code} {D : va_G} {cy : Nat → ClassId} {T0 tB tE : Nat} {A : Nat → Prop} {a : Nat → Nat} {rw : Nat → Option Nat} (hrw : ∀ i, i < 6 → rw i = some (a (12 + 2 * i))) {post : Int32 → KS → Prop} {k29 : KS → Nat → Prop} {k2 : KS → Nat → Int32 → Prop} (b : Bz p R s m args meth c D cy T0 tB tE A 2 cX9_isInBounds RX9 (some .boolean) "isInBounds" 1 21 0 0) (hk29 : ∀ (S : KS) (x0 : Nat), k29 S x0 → Z p l e R s m args below meth c D A 2 (MQ below (QI D (U := KS) post (kw cy a rw) A) args s 0 0 A) 0 0 (kw cy a rw S) [(0, .ref (a (2 + 2 * x0)))] 29 []) (hk2 : ∀ (S : KS) (x0 : Nat) (x1 : Int32), k2 S x0 x1 → Z p l e R s m args below meth c D A 2 (MQ below (QI D (U := KS) post (kw cy a rw) A) args s 0 0 A) 0 0 (kw cy a rw S) [(0, .ref (a (2 + 2 * x0))), (1, .int x1)] 2 []) (S : KS) (x0 : Nat) (x1 : Int32) (h : w_X9_isInBounds_F2 cy tE post k29 k2 S x0 x1) : Z p l e R s m args below meth c D A 2 (MQ below (QI D (U := KS) post (kw cy a rw) A) args s 0 0 A) 0 0 (kw cy a rw S) [(0, .ref (a (2 + 2 * x0))), (1, .int x1)] 2 [] := by
  unfold w_X9_isInBounds_F2 at h
  refine z_iload_n b dX9_isInBounds_2 rfl rfl ?_
  refine z_iconst (v := 3) b dX9_isInBounds_3 (by decide) ?_
  refine y_icmp_ge (tgt := 29) (xl := x1.toInt) (yl := 3) b rfl (by decide) dX9_isInBounds_4 (by decide) (fun c1 => ?_) (fun c1 => ?_)
  · replace h := h.1 c1
    refine z_lv0 (lv' := [(0, .ref (a (2 + 2 * x0)))]) [0] rfl ?_
    exact hk29 _ _ h
  · replace h := h.2 c1
    refine z_aload_n b dX9_isInBounds_7 rfl rfl ?_
    obtain ⟨g1, h⟩ := h
    refine z_get (q0 := 2 + 2 * x0) (k9 := 0) (v := .ref (a (3 + 2 * x0))) b (kw_so cy a rw S g1) rfl in_X9 (by decide) wf_X9_11 rfl dX9_isInBounds_8 ?_
    refine z_iload_n b dX9_isInBounds_11 rfl rfl ?_
    obtain ⟨g2, h⟩ := h
    obtain ⟨g3, h⟩ := h
    refine y_iald (q0 := 3 + 2 * x0) (j := x1.toNatClampNeg) (v := ((ar S.1 (1 + x0)) x1.toNatClampNeg)) b (kw_sr cy a rw S g2) (zx_r g3.1 g3.2) rfl dX9_isInBounds_12 ?_
    refine z_bipush (v := 15) b dX9_isInBounds_13 (by decide) ?_
    refine z_calli b (z_runSN (As := [.int ((ar S.1 (1 + x0)) x1.toNatClampNeg), .int 15]) (st := []) b (k_X11_isWithin hrw S ((ar S.1 (1 + x0)) x1.toNatClampNeg) 15 _ h) cf_X11_isWithin (nw_X9_42) ws_X11_isWithin dX9_isInBounds_15 rfl (Nat.le_of_ble_eq_true rfl) ⟨by decide, by decide, Nat.le_of_ble_eq_true rfl, Nat.le_of_ble_eq_true rfl⟩) (fun r4 S5 h => ?_)
    refine y_if_ne (tgt := 23) (xl := r4.toInt) b rfl dX9_isInBounds_18 (by decide) (fun c1 => ?_) (fun c1 => ?_)
    · replace h := h.1 c1
      refine z_iinc (k9 := 1) (v := (x1 + 1)) (lv' := [(1, .int (x1 + 1)), (0, .ref (a (2 + 2 * x0)))]) b dX9_isInBounds_23 rfl rfl (by decide) rfl ?_
      refine z_goto (tgt := 2) b dX9_isInBounds_26 (by decide) ?_
      refine z_lv0 (lv' := [(0, .ref (a (2 + 2 * x0))), (1, .int (x1 + 1))]) [1, 0] rfl ?_
      exact hk2 _ _ _ h
    · replace h := h.2 c1
      refine z_iconst (v := 0) b dX9_isInBounds_21 (by decide) ?_
      exact z_zret (u := S5) b rfl (by decide) dX9_isInBounds_22 h rfl (by decide) (by decide)

set_option maxHeartbeats 200000 in
set_option maxRecDepth 100000 in
theorem zl_X9_isInBounds_L2 {p : Program} {l : Launch} {e : Env} {R : Room} {s : State} {m : MethodId} {args : Array Value} {below : List Frame} {meth : Method} {c : Code} {D : va_G} {cy : Nat → ClassId} {T0 tB tE : Nat} {A : Nat → Prop} {a : Nat → Nat} {rw : Nat → Option Nat} (hrw : ∀ i, i < 6 → rw i = some (a (12 + 2 * i))) {post : Int32 → KS → Prop} {k29 : KS → Nat → Prop} (b : Bz p R s m args meth c D cy T0 tB tE A 2 cX9_isInBounds RX9 (some .boolean) "isInBounds" 1 21 0 0) (hk29 : ∀ (S : KS) (x0 : Nat), k29 S x0 → Z p l e R s m args below meth c D A 2 (MQ below (QI D (U := KS) post (kw cy a rw) A) args s 0 0 A) 0 0 (kw cy a rw S) [(0, .ref (a (2 + 2 * x0)))] 29 []) : ∀ (n : Nat) (S : KS) (x0 : Nat) (x1 : Int32), lpn (w_X9_isInBounds_F2 cy tE post k29) (fun _ _ _ => False) n S x0 x1 → Z p l e R s m args below meth c D A 2 (MQ below (QI D (U := KS) post (kw cy a rw) A) args s 0 0 A) 0 0 (kw cy a rw S) [(0, .ref (a (2 + 2 * x0))), (1, .int x1)] 2 [] := by
  intro n
  induction n with
  | zero => intro _ _ _ h; exact h.elim
  | succ n ih => intro S x0 x1 h; exact z_X9_isInBounds_F2 hrw b hk29 ih S x0 x1 h

def w_X9_isInBounds_F31 (cy : Nat → ClassId) (tE : Nat) (post : Int32 → KS → Prop) (k62 : KS → Nat → Prop) (k31 : KS → Nat → Int32 → Prop) (S : KS) (x0 : Nat) (x1 : Int32) : Prop :=
  ((9 ≤ x1.toInt → k62 S x0) ∧ (x1.toInt < 9 → (x0 < 5) ∧ (x0 < 5) ∧ (0 ≤ ((10 : Int32) + x1).toInt ∧ ((10 : Int32) + x1).toInt < 51) ∧ w_X11_isWithin cy tE S ((ar S.1 (1 + x0)) ((10 : Int32) + x1).toNatClampNeg) 7 (fun r9 S10 => ((r9.toInt ≠ 0 → k31 S10 x0 (x1 + 1)) ∧ (r9.toInt = 0 → post 0 S10)))))

set_option maxHeartbeats 200000 in
set_option maxRecDepth 100000 in
theorem z_X9_isInBounds_F31 {p : Program} {l : Launch} {e : Env} {R : Room} {s : State} {m : MethodId} {args : Array Value} {below : List Frame} {meth : Method} {c : Code} {D : va_G} {cy : Nat → ClassId} {T0 tB tE : Nat} {A : Nat → Prop} {a : Nat → Nat} {rw : Nat → Option Nat} (hrw : ∀ i, i < 6 → rw i = some (a (12 + 2 * i))) {post : Int32 → KS → Prop} {k62 : KS → Nat → Prop} {k31 : KS → Nat → Int32 → Prop} (b : Bz p R s m args meth c D cy T0 tB tE A 2 cX9_isInBounds RX9 (some .boolean) "isInBounds" 1 21 0 0) (hk62 : ∀ (S : KS) (x0 : Nat), k62 S x0 → Z p l e R s m args below meth c D A 2 (MQ below (QI D (U := KS) post (kw cy a rw) A) args s 0 0 A) 0 0 (kw cy a rw S) [(0, .ref (a (2 + 2 * x0)))] 62 []) (hk31 : ∀ (S : KS) (x0 : Nat) (x1 : Int32), k31 S x0 x1 → Z p l e R s m args below meth c D A 2 (MQ below (QI D (U := KS) post (kw cy a rw) A) args s 0 0 A) 0 0 (kw cy a rw S) [(0, .ref (a (2 + 2 * x0))), (1, .int x1)] 31 []) (S : KS) (x0 : Nat) (x1 : Int32) (h : w_X9_isInBounds_F31 cy tE post k62 k31 S x0 x1) : Z p l e R s m args below meth c D A 2 (MQ below (QI D (U := KS) post (kw cy a rw) A) args s 0 0 A) 0 0 (kw cy a rw S) [(0, .ref (a (2 + 2 * x0))), (1, .int x1)] 31 [] := by
  unfold w_X9_isInBounds_F31 at h
  refine z_iload_n b dX9_isInBounds_31 rfl rfl ?_
  refine z_bipush (v := 9) b dX9_isInBounds_32 (by decide) ?_
  refine y_icmp_ge (tgt := 62) (xl := x1.toInt) (yl := 9) b rfl (by decide) dX9_isInBounds_34 (by decide) (fun c1 => ?_) (fun c1 => ?_)
  · replace h := h.1 c1
    refine z_lv0 (lv' := [(0, .ref (a (2 + 2 * x0)))]) [0] rfl ?_
    exact hk62 _ _ h
  · replace h := h.2 c1
    refine z_aload_n b dX9_isInBounds_37 rfl rfl ?_
    obtain ⟨g6, h⟩ := h
    refine z_get (q0 := 2 + 2 * x0) (k9 := 0) (v := .ref (a (3 + 2 * x0))) b (kw_so cy a rw S g6) rfl in_X9 (by decide) wf_X9_11 rfl dX9_isInBounds_38 ?_
    refine z_bipush (v := 10) b dX9_isInBounds_41 (by decide) ?_
    refine z_iload_n b dX9_isInBounds_43 rfl rfl ?_
    refine z_iadd b dX9_isInBounds_44 rfl ?_
    obtain ⟨g7, h⟩ := h
    obtain ⟨g8, h⟩ := h
    refine y_iald (q0 := 3 + 2 * x0) (j := ((10 : Int32) + x1).toNatClampNeg) (v := ((ar S.1 (1 + x0)) ((10 : Int32) + x1).toNatClampNeg)) b (kw_sr cy a rw S g7) (zx_r g8.1 g8.2) rfl dX9_isInBounds_45 ?_
    refine z_bipush (v := 7) b dX9_isInBounds_46 (by decide) ?_
    refine z_calli b (z_runSN (As := [.int ((ar S.1 (1 + x0)) ((10 : Int32) + x1).toNatClampNeg), .int 7]) (st := []) b (k_X11_isWithin hrw S ((ar S.1 (1 + x0)) ((10 : Int32) + x1).toNatClampNeg) 7 _ h) cf_X11_isWithin (nw_X9_42) ws_X11_isWithin dX9_isInBounds_48 rfl (Nat.le_of_ble_eq_true rfl) ⟨by decide, by decide, Nat.le_of_ble_eq_true rfl, Nat.le_of_ble_eq_true rfl⟩) (fun r9 S10 h => ?_)
    refine y_if_ne (tgt := 56) (xl := r9.toInt) b rfl dX9_isInBounds_51 (by decide) (fun c1 => ?_) (fun c1 => ?_)
    · replace h := h.1 c1
      refine z_iinc (k9 := 1) (v := (x1 + 1)) (lv' := [(1, .int (x1 + 1)), (0, .ref (a (2 + 2 * x0)))]) b dX9_isInBounds_56 rfl rfl (by decide) rfl ?_
      refine z_goto (tgt := 31) b dX9_isInBounds_59 (by decide) ?_
      refine z_lv0 (lv' := [(0, .ref (a (2 + 2 * x0))), (1, .int (x1 + 1))]) [1, 0] rfl ?_
      exact hk31 _ _ _ h
    · replace h := h.2 c1
      refine z_iconst (v := 0) b dX9_isInBounds_54 (by decide) ?_
      exact z_zret (u := S10) b rfl (by decide) dX9_isInBounds_55 h rfl (by decide) (by decide)

set_option maxHeartbeats 200000 in
set_option maxRecDepth 100000 in
theorem zl_X9_isInBounds_L31 {p : Program} {l : Launch} {e : Env} {R : Room} {s : State} {m : MethodId} {args : Array Value} {below : List Frame} {meth : Method} {c : Code} {D : va_G} {cy : Nat → ClassId} {T0 tB tE : Nat} {A : Nat → Prop} {a : Nat → Nat} {rw : Nat → Option Nat} (hrw : ∀ i, i < 6 → rw i = some (a (12 + 2 * i))) {post : Int32 → KS → Prop} {k62 : KS → Nat → Prop} (b : Bz p R s m args meth c D cy T0 tB tE A 2 cX9_isInBounds RX9 (some .boolean) "isInBounds" 1 21 0 0) (hk62 : ∀ (S : KS) (x0 : Nat), k62 S x0 → Z p l e R s m args below meth c D A 2 (MQ below (QI D (U := KS) post (kw cy a rw) A) args s 0 0 A) 0 0 (kw cy a rw S) [(0, .ref (a (2 + 2 * x0)))] 62 []) : ∀ (n : Nat) (S : KS) (x0 : Nat) (x1 : Int32), lpn (w_X9_isInBounds_F31 cy tE post k62) (fun _ _ _ => False) n S x0 x1 → Z p l e R s m args below meth c D A 2 (MQ below (QI D (U := KS) post (kw cy a rw) A) args s 0 0 A) 0 0 (kw cy a rw S) [(0, .ref (a (2 + 2 * x0))), (1, .int x1)] 31 [] := by
  intro n
  induction n with
  | zero => intro _ _ _ h; exact h.elim
  | succ n ih => intro S x0 x1 h; exact z_X9_isInBounds_F31 hrw b hk62 ih S x0 x1 h

def w_X9_isInBounds_B62 (cy : Nat → ClassId) (tE : Nat) (post : Int32 → KS → Prop) (S : KS) (x0 : Nat) : Prop :=
  (x0 < 5) ∧ (x0 < 5) ∧ w_X11_isWithin cy tE S ((ar S.1 (1 + x0)) 50) 15 (fun r13 S14 => (r13 = 0 ∨ r13 = 1) ∧ post r13 S14)

set_option maxHeartbeats 200000 in
set_option maxRecDepth 100000 in
theorem z_X9_isInBounds_B62 {p : Program} {l : Launch} {e : Env} {R : Room} {s : State} {m : MethodId} {args : Array Value} {below : List Frame} {meth : Method} {c : Code} {D : va_G} {cy : Nat → ClassId} {T0 tB tE : Nat} {A : Nat → Prop} {a : Nat → Nat} {rw : Nat → Option Nat} (hrw : ∀ i, i < 6 → rw i = some (a (12 + 2 * i))) {post : Int32 → KS → Prop} (b : Bz p R s m args meth c D cy T0 tB tE A 2 cX9_isInBounds RX9 (some .boolean) "isInBounds" 1 21 0 0) (S : KS) (x0 : Nat) (h : w_X9_isInBounds_B62 cy tE post S x0) : Z p l e R s m args below meth c D A 2 (MQ below (QI D (U := KS) post (kw cy a rw) A) args s 0 0 A) 0 0 (kw cy a rw S) [(0, .ref (a (2 + 2 * x0)))] 62 [] := by
  unfold w_X9_isInBounds_B62 at h
  refine z_aload_n b dX9_isInBounds_62 rfl rfl ?_
  obtain ⟨g11, h⟩ := h
  refine z_get (q0 := 2 + 2 * x0) (k9 := 0) (v := .ref (a (3 + 2 * x0))) b (kw_so cy a rw S g11) rfl in_X9 (by decide) wf_X9_11 rfl dX9_isInBounds_63 ?_
  refine z_bipush (v := 50) b dX9_isInBounds_66 (by decide) ?_
  obtain ⟨g12, h⟩ := h
  refine y_iald (q0 := 3 + 2 * x0) (j := 50) (v := ((ar S.1 (1 + x0)) 50)) b (kw_sr cy a rw S g12) (by decide) rfl dX9_isInBounds_68 ?_
  refine z_bipush (v := 15) b dX9_isInBounds_69 (by decide) ?_
  refine z_calli b (z_runSN (As := [.int ((ar S.1 (1 + x0)) 50), .int 15]) (st := []) b (k_X11_isWithin hrw S ((ar S.1 (1 + x0)) 50) 15 _ h) cf_X11_isWithin (nw_X9_42) ws_X11_isWithin dX9_isInBounds_71 rfl (Nat.le_of_ble_eq_true rfl) ⟨by decide, by decide, Nat.le_of_ble_eq_true rfl, Nat.le_of_ble_eq_true rfl⟩) (fun r13 S14 h => ?_)
  obtain ⟨g15, h⟩ := h
  exact z_zret (u := S14) b rfl (z_bool g15) dX9_isInBounds_74 h rfl (by decide) (by decide)

