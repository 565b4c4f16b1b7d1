def w_X9_isInBounds_B29 (cy : Nat → ClassId) (tE : Nat) (post : Int32 → KS → Prop) (S : KS) (x0 : Nat) : Prop :=
  ∃ n, lpn (w_X9_isInBounds_F31 cy tE post (w_X9_isInBounds_B62 cy tE post)) (fun _ _ _ => False) n S x0 0

set_option maxHeartbeats 200000 in
set_option maxRecDepth 100000 in
theorem z_X9_isInBounds_B29 {p : Program} {l : Launch} {e : Env} {R : Room} {s : State} {m : MethodId} {args : Array Value} {below : List Frame} {meth : Method} {c : Code} {D : va_G} {cy : Nat → ClassId} {T0 tB tE : Nat} {A : Nat → Prop} {a : Nat → Nat} {rw : Nat → Option Nat} (hrw : ∀ i, i < 6 → rw i = some (a (12 + 2 * i))) {post : Int32 → KS → Prop} (b : Bz p R s m args meth c D cy T0 tB tE A 2 cX9_isInBounds RX9 (some .boolean) "isInBounds" 1 21 0 0) (S : KS) (x0 : Nat) (h : w_X9_isInBounds_B29 cy tE post S x0) : Z p l e R s m args below meth c D A 2 (MQ below (QI D (U := KS) post (kw cy a rw) A) args s 0 0 A) 0 0 (kw cy a rw S) [(0, .ref (a (2 + 2 * x0)))] 29 [] := by
  unfold w_X9_isInBounds_B29 at h
  refine z_iconst (v := 0) b dX9_isInBounds_29 (by decide) ?_
  refine z_istore_n (lv' := [(1, .int 0), (0, .ref (a (2 + 2 * x0)))]) b dX9_isInBounds_30 rfl (by decide) rfl ?_
  refine z_lv0 (lv' := [(0, .ref (a (2 + 2 * x0))), (1, .int 0)]) [1, 0] rfl ?_
  obtain ⟨n, h⟩ := h
  exact zl_X9_isInBounds_L31 hrw b (fun S x0 h => z_X9_isInBounds_B62 hrw b _ _ h) n _ _ _ h

def w_X9_isInBounds (cy : Nat → ClassId) (tE : Nat) (S : KS) (p9 : Nat) (post : Int32 → KS → Prop) : Prop :=
  ∃ n, lpn (w_X9_isInBounds_F2 cy tE post (w_X9_isInBounds_B29 cy tE post)) (fun _ _ _ => False) n S p9 0

set_option maxHeartbeats 200000 in
set_option maxRecDepth 100000 in
theorem k_X9_isInBounds {l : Launch} {D : va_G} {cy : Nat → ClassId} {T0 tB tE : Nat} {a : Nat → Nat} {rw : Nat → Option Nat} (hrw : ∀ i, i < 6 → rw i = some (a (12 + 2 * i))) (S : KS) (p9 : Nat) (post : Int32 → KS → Prop) (h : w_X9_isInBounds cy tE S p9 post) : Ct l D cy T0 tB tE yX9_isInBounds cX9_isInBounds 2 (some .boolean) 1 21 0 0 (kw cy a rw S) [.ref (a (2 + 2 * p9))] (QI D (U := KS) post (kw cy a rw)) := by
  refine Ct.ofZ RX9 "isInBounds" [(0, .ref (a (2 + 2 * p9)))] rfl rfl rfl rfl (Nat.le_of_ble_eq_true rfl) ?_
  intro p e R s m args below meth c A b
  unfold w_X9_isInBounds at h
  refine z_iconst (v := 0) b dX9_isInBounds_0 (by decide) ?_
  refine z_istore_n (lv' := [(1, .int 0), (0, .ref (a (2 + 2 * p9)))]) b dX9_isInBounds_1 rfl (by decide) rfl ?_
  refine z_lv0 (lv' := [(0, .ref (a (2 + 2 * p9))), (1, .int 0)]) [1, 0] rfl ?_
  obtain ⟨n, h⟩ := h
  exact zl_X9_isInBounds_L2 hrw b (fun S x0 h => z_X9_isInBounds_B29 hrw b _ _ h) n _ _ _ h

def w_X2_why_F31 (cy : Nat → ClassId) (tE : Nat) (post : Int32 → KS → Prop) (k76 : KS → Nat → Int32 → Int32 → Option Nat → Prop) (k31 : KS → Nat → Int32 → Int32 → Option Nat → Int32 → Prop) (S : KS) (x1 : Nat) (x2 : Int32) (x4 : Int32) (x5 : Option Nat) (x6 : Int32) : Prop :=
  ∃ q6 : Nat, x5 = some q6 ∧ ∃ (i8 : Nat) (f9 : Int64) (f10 : Nat) (f11 : Value) (f12 : Int32) (f13 : Int32), S.2.2.2[i8]? = some (q6, .inr (1, [.long f9, .ref f10, f11, .int f12, .int f13])) ∧ ∃ (i15 : Nat) (f16 : List Value), S.2.2.2[i15]? = some (f10, .inr (0, f16)) ∧ w_Jx4a65c_size_8abf5 cy tE S f10 (fun r18 S19 => ((r18.toInt ≤ x6.toInt → k76 S19 x1 x2 x4 (some q6)) ∧ (x6.toInt < r18.toInt → ∃ (i20 : Nat) (f21 : Int64) (f22 : Nat) (f23 : Value) (f24 : Int32) (f25 : Int32), S19.2.2.2[i20]? = some (q6, .inr (1, [.long f21, .ref f22, f23, .int f24, .int f25])) ∧ ∃ (i27 : Nat) (f28 : List Value), S19.2.2.2[i27]? = some (f22, .inr (0, f28)) ∧ w_Jx4a65c_get_915e3 cy tE S19 f22 x6 (fun r30 S31 => ∃ q32 : Nat, r30 = some q32 ∧ ∃ (i34 : Nat) (f35 : List Value), S31.2.2.2[i34]? = some (q32, .inr (2, f35)) ∧ w_X6_value cy tE S31 q32 (fun r37 S38 => ((r37.toInt ≠ 0 → k31 S38 x1 x2 x4 (some q6) (x6 + 1)) ∧ (r37.toInt = 0 → post x6 S38)))))))

set_option maxHeartbeats 200000 in
set_option maxRecDepth 100000 in
theorem z_X2_why_F31 {p : Program} {l : Launch} {e : Env} {R : Room} {s : State} {m : MethodId} {args : Array Value} {below : List Frame} {meth : Method} {c : Code} {D : va_G} {cy : Nat → ClassId} {T0 tB tE : Nat} {A : Nat → Prop} {a : Nat → Nat} {rw : Nat → Option Nat} (hrw : ∀ i, i < 6 → rw i = some (a (12 + 2 * i))) {post : Int32 → KS → Prop} {k76 : KS → Nat → Int32 → Int32 → Option Nat → Prop} {k31 : KS → Nat → Int32 → Int32 → Option Nat → Int32 → Prop} (b : Bz p R s m args meth c D cy T0 tB tE A 10 cX2_why RX2 (some .int) "why" 3 72 0 0) (hk76 : ∀ (S : KS) (x1 : Nat) (x2 : Int32) (x4 : Int32) (x5 : Option Nat), k76 S x1 x2 x4 x5 → Z p l e R s m args below meth c D A 10 (MQ below (QI D (U := KS) post (kw cy a rw) A) args s 0 0 A) 0 0 (kw cy a rw S) [(0, .ref (a 35)), (1, .ref (a (2 + 2 * x1))), (2, .int x2), (4, .int x4), (5, va_rf x5)] 76 []) (hk31 : ∀ (S : KS) (x1 : Nat) (x2 : Int32) (x4 : Int32) (x5 : Option Nat) (x6 : Int32), k31 S x1 x2 x4 x5 x6 → Z p l e R s m args below meth c D A 10 (MQ below (QI D (U := KS) post (kw cy a rw) A) args s 0 0 A) 0 0 (kw cy a rw S) [(0, .ref (a 35)), (1, .ref (a (2 + 2 * x1))), (2, .int x2), (4, .int x4), (5, va_rf x5), (6, .int x6)] 31 []) (S : KS) (x1 : Nat) (x2 : Int32) (x4 : Int32) (x5 : Option Nat) (x6 : Int32) (h : w_X2_why_F31 cy tE post k76 k31 S x1 x2 x4 x5 x6) : Z p l e R s m args below meth c D A 10 (MQ below (QI D (U := KS) post (kw cy a rw) A) args s 0 0 A) 0 0 (kw cy a rw S) [(0, .ref (a 35)), (1, .ref (a (2 + 2 * x1))), (2, .int x2), (4, .int x4), (5, va_rf x5), (6, .int x6)] 31 [] := by
  unfold w_X2_why_F31 at h
  refine z_iload b dX2_why_31 rfl ?_
  refine z_aloadQ b dX2_why_33 rfl ?_
  obtain ⟨q6, g7, h⟩ := h
  subst g7
  obtain ⟨i8, f9, f10, f11, f12, f13, g14, h⟩ := h
  refine z_get (q0 := 47 + i8) (k9 := 1) (v := .ref f10) b (kw_dyn cy a rw S g14) rfl in_X0 (by decide) wf_X2_46 rfl dX2_why_35 ?_
  obtain ⟨i15, f16, g17, h⟩ := h
  refine z_calli b (z_runV (q0 := 47 + i15) (As := []) (st := [.int x6]) b (k_Jx4a65c_size_8abf5 hrw S f10 _ h) cf_Jx4a65c_size_8abf5 (kw_dyn cy a rw S g17) rfl wm_X2_52 wi_Jx4a65c_size_8abf5 ws_Jx4a65c_size_8abf5 dX2_why_38 rfl (Nat.le_of_ble_eq_true rfl) ⟨by decide, by decide, Nat.le_of_ble_eq_true rfl, Nat.le_of_ble_eq_true rfl⟩) (fun r18 S19 h => ?_)
  refine y_icmp_ge (tgt := 76) (xl := x6.toInt) (yl := r18.toInt) b rfl rfl dX2_why_41 (by decide) (fun c1 => ?_) (fun c1 => ?_)
  · replace h := h.1 c1
    refine z_lv0 (lv' := [(0, .ref (a 35)), (1, .ref (a (2 + 2 * x1))), (2, .int x2), (4, .int x4), (5, .ref q6)]) [0, 1, 2, 3, 4] rfl ?_
    exact hk76 _ _ _ _ _ h
  · replace h := h.2 c1
    refine z_aload_n b dX2_why_44 rfl rfl ?_
    refine z_get (q0 := 35) (k9 := 1) (v := .ref (a 36)) b (kw_35 cy a rw S19) rfl in_X2 (by decide) wf_X2_12 rfl dX2_why_45 ?_
    refine z_aload b dX2_why_48 rfl ?_
    obtain ⟨i20, f21, f22, f23, f24, f25, g26, h⟩ := h
    refine z_get (q0 := 47 + i20) (k9 := 1) (v := .ref f22) b (kw_dyn cy a rw S19 g26) rfl in_X0 (by decide) wf_X2_46 rfl dX2_why_50 ?_
    refine z_iload b dX2_why_53 rfl ?_
    obtain ⟨i27, f28, g29, h⟩ := h
    refine z_callq b (z_runV (q0 := 47 + i27) (As := [.int x6]) (st := [.ref (a 36)]) b (k_Jx4a65c_get_915e3 hrw S19 f22 x6 _ h) cf_Jx4a65c_get_915e3 (kw_dyn cy a rw S19 g29) rfl wm_X2_58 wi_Jx4a65c_get_915e3 ws_Jx4a65c_get_915e3 dX2_why_55 rfl (Nat.le_of_ble_eq_true rfl) ⟨by decide, by decide, Nat.le_of_ble_eq_true rfl, Nat.le_of_ble_eq_true rfl⟩) (fun r30 S31 h => ?_)
    obtain ⟨q32, g33, h⟩ := h
    subst g33
    obtain ⟨i34, f35, g36, h⟩ := h
    refine z_cast (q0 := 47 + i34) (ci := 2) b wk_X2_62 (kw_dyn cy a rw S31 g36) rfl dX2_why_58 ?_
    refine z_calli b (z_runV (q0 := 36) (As := [.ref q32]) (st := []) b (k_X6_value hrw S31 q32 _ h) cf_X6_value (kw_36 cy a rw S31) rfl wm_X2_64 wi_X6_value ws_X6_value dX2_why_61 rfl (Nat.le_of_ble_eq_true rfl) ⟨by decide, by decide, Nat.le_of_ble_eq_true rfl, Nat.le_of_ble_eq_true rfl⟩) (fun r37 S38 h => ?_)
    refine y_if_ne (tgt := 70) (xl := r37.toInt) b rfl dX2_why_64 (by decide) (fun c1 => ?_) (fun c1 => ?_)
    · replace h := h.1 c1
      refine z_iinc (k9 := 5) (v := (x6 + 1)) (lv' := [(6, .int (x6 + 1)), (0, .ref (a 35)), (1, .ref (a (2 + 2 * x1))), (2, .int x2), (4, .int x4), (5, .ref q6)]) b dX2_why_70 rfl rfl (by decide) rfl ?_
      refine z_goto (tgt := 31) b dX2_why_73 (by decide) ?_
      refine z_lv0 (lv' := [(0, .ref (a 35)), (1, .ref (a (2 + 2 * x1))), (2, .int x2), (4, .int x4), (5, .ref q6), (6, .int (x6 + 1))]) [1, 2, 3, 4, 5, 0] rfl ?_
      exact hk31 _ _ _ _ _ _ h
    · replace h := h.2 c1
      refine z_iload b dX2_why_67 rfl ?_
      exact z_iret (u := S38) b rfl dX2_why_69 h rfl (by decide) (by decide)

set_option maxHeartbeats 200000 in
set_option maxRecDepth 100000 in
theorem zl_X2_why_L31 {p : Program} {l : Launch} {e : Env} {R : Room} {s : State} {m : MethodId} {args : Array Value} {below : List Frame} {meth : Method} {c : Code} {D : va_G} {cy : Nat → ClassId} {T0 tB tE : Nat} {A : Nat → Prop} {a : Nat → Nat} {rw : Nat → Option Nat} (hrw : ∀ i, i < 6 → rw i = some (a (12 + 2 * i))) {post : Int32 → KS → Prop} {k76 : KS → Nat → Int32 → Int32 → Option Nat → Prop} (b : Bz p R s m args meth c D cy T0 tB tE A 10 cX2_why RX2 (some .int) "why" 3 72 0 0) (hk76 : ∀ (S : KS) (x1 : Nat) (x2 : Int32) (x4 : Int32) (x5 : Option Nat), k76 S x1 x2 x4 x5 → Z p l e R s m args below meth c D A 10 (MQ below (QI D (U := KS) post (kw cy a rw) A) args s 0 0 A) 0 0 (kw cy a rw S) [(0, .ref (a 35)), (1, .ref (a (2 + 2 * x1))), (2, .int x2), (4, .int x4), (5, va_rf x5)] 76 []) : ∀ (n : Nat) (S : KS) (x1 : Nat) (x2 : Int32) (x4 : Int32) (x5 : Option Nat) (x6 : Int32), lpn (w_X2_why_F31 cy tE post k76) (fun _ _ _ _ _ _ => False) n S x1 x2 x4 x5 x6 → Z p l e R s m args below meth c D A 10 (MQ below (QI D (U := KS) post (kw cy a rw) A) args s 0 0 A) 0 0 (kw cy a rw S) [(0, .ref (a 35)), (1, .ref (a (2 + 2 * x1))), (2, .int x2), (4, .int x4), (5, va_rf x5), (6, .int x6)] 31 [] := by
  intro n
  induction n with
  | zero => intro _ _ _ _ _ _ h; exact h.elim
  | succ n ih => intro S x1 x2 x4 x5 x6 h; exact z_X2_why_F31 hrw b hk76 ih S x1 x2 x4 x5 x6 h

def w_X2_why_B167 (cy : Nat → ClassId) (tE : Nat) (post : Int32 → KS → Prop) (k79 : KS → Nat → Int32 → Int32 → Option Nat → Int32 → Prop) (k173 : KS → Nat → Int32 → Option Nat → Prop) (S : KS) (x1 : Nat) (x2 : Int32) (x4 : Int32) (x5 : Option Nat) (x6 : Int32) : Prop :=
  k79 S x1 x2 x4 x5 (x6 + 1)

set_option maxHeartbeats 200000 in
set_option maxRecDepth 100000 in
theorem z_X2_why_B167 {p : Program} {l : Launch} {e : Env} {R : Room} {s : State} {m : MethodId} {args : Array Value} {below : List Frame} {meth : Method} {c : Code} {D : va_G} {cy : Nat → ClassId} {T0 tB tE : Nat} {A : Nat → Prop} {a : Nat → Nat} {rw : Nat → Option Nat} (hrw : ∀ i, i < 6 → rw i = some (a (12 + 2 * i))) {post : Int32 → KS → Prop} {k79 : KS → Nat → Int32 → Int32 → Option Nat → Int32 → Prop} {k173 : KS → Nat → Int32 → Option Nat → Prop} (b : Bz p R s m args meth c D cy T0 tB tE A 10 cX2_why RX2 (some .int) "why" 3 72 0 0) (hk79 : ∀ (S : KS) (x1 : Nat) (x2 : Int32) (x4 : Int32) (x5 : Option Nat) (x6 : Int32), k79 S x1 x2 x4 x5 x6 → Z p l e R s m args below meth c D A 10 (MQ below (QI D (U := KS) post (kw cy a rw) A) args s 0 0 A) 0 0 (kw cy a rw S) [(0, .ref (a 35)), (1, .ref (a (2 + 2 * x1))), (2, .int x2), (4, .int x4), (5, va_rf x5), (6, .int x6)] 79 []) (hk173 : ∀ (S : KS) (x1 : Nat) (x2 : Int32) (x5 : Option Nat), k173 S x1 x2 x5 → Z p l e R s m args below meth c D A 10 (MQ below (QI D (U := KS) post (kw cy a rw) A) args s 0 0 A) 0 0 (kw cy a rw S) [(0, .ref (a 35)), (1, .ref (a (2 + 2 * x1))), (2, .int x2), (5, va_rf x5)] 173 []) (S : KS) (x1 : Nat) (x2 : Int32) (x4 : Int32) (x5 : Option Nat) (x6 : Int32) (h : w_X2_why_B167 cy tE post k79 k173 S x1 x2 x4 x5 x6) : Z p l e R s m args below meth c D A 10 (MQ below (QI D (U := KS) post (kw cy a rw) A) args s 0 0 A) 0 0 (kw cy a rw S) [(0, .ref (a 35)), (1, .ref (a (2 + 2 * x1))), (2, .int x2), (4, .int x4), (5, va_rf x5), (6, .int x6)] 167 [] := by
  unfold w_X2_why_B167 at h
  refine z_iinc (k9 := 5) (v := (x6 + 1)) (lv' := [(6, .int (x6 + 1)), (0, .ref (a 35)), (1, .ref (a (2 + 2 * x1))), (2, .int x2), (4, .int x4), (5, va_rf x5)]) b dX2_why_167 rfl rfl (by decide) (by cases x5 <;> rfl) ?_
  refine z_goto (tgt := 79) b dX2_why_170 (by decide) ?_
  refine z_lv0 (lv' := [(0, .ref (a 35)), (1, .ref (a (2 + 2 * x1))), (2, .int x2), (4, .int x4), (5, va_rf x5), (6, .int (x6 + 1))]) [1, 2, 3, 4, 5, 0] rfl ?_
  exact hk79 _ _ _ _ _ _ h

def w_X2_why_B139 (cy : Nat → ClassId) (tE : Nat) (post : Int32 → KS → Prop) (k79 : KS → Nat → Int32 → Int32 → Option Nat → Int32 → Prop) (k173 : KS → Nat → Int32 → Option Nat → Prop) (S : KS) (x1 : Nat) (x2 : Int32) (x4 : Int32) (x5 : Option Nat) (x6 : Int32) (x7 : Nat) (y0 : Int32) : Prop :=
  ((y0.toInt = 0 → w_X2_why_B167 cy tE post k79 k173 S x1 x2 x4 x5 x6) ∧ (y0.toInt ≠ 0 → ∃ (i54 : Nat) (f55 : Int32) (f56 : Nat), S.2.2.2[i54]? = some (x7, .inr (4, [.int f55, .ref f56])) ∧ w_X6_value cy tE S f56 (fun r58 S59 => ((r58.toInt ≠ 0 → w_X2_why_B167 cy tE post k79 k173 S59 x1 x2 x4 x5 x6) ∧ (r58.toInt = 0 → post ((10 : Int32) + x6) S59)))))

set_option maxHeartbeats 200000 in
set_option maxRecDepth 100000 in
theorem z_X2_why_B139 {p : Program} {l : Launch} {e : Env} {R : Room} {s : State} {m : MethodId} {args : Array Value} {below : List Frame} {meth : Method} {c : Code} {D : va_G} {cy : Nat → ClassId} {T0 tB tE : Nat} {A : Nat → Prop} {a : Nat → Nat} {rw : Nat → Option Nat} (hrw : ∀ i, i < 6 → rw i = some (a (12 + 2 * i))) {post : Int32 → KS → Prop} {k79 : KS → Nat → Int32 → Int32 → Option Nat → Int32 → Prop} {k173 : KS → Nat → Int32 → Option Nat → Prop} (b : Bz p R s m args meth c D cy T0 tB tE A 10 cX2_why RX2 (some .int) "why" 3 72 0 0) (hk79 : ∀ (S : KS) (x1 : Nat) (x2 : Int32) (x4 : Int32) (x5 : Option Nat) (x6 : Int32), k79 S x1 x2 x4 x5 x6 → Z p l e R s m args below meth c D A 10 (MQ below (QI D (U := KS) post (kw cy a rw) A) args s 0 0 A) 0 0 (kw cy a rw S) [(0, .ref (a 35)), (1, .ref (a (2 + 2 * x1))), (2, .int x2), (4, .int x4), (5, va_rf x5), (6, .int x6)] 79 []) (hk173 : ∀ (S : KS) (x1 : Nat) (x2 : Int32) (x5 : Option Nat), k173 S x1 x2 x5 → Z p l e R s m args below meth c D A 10 (MQ below (QI D (U := KS) post (kw cy a rw) A) args s 0 0 A) 0 0 (kw cy a rw S) [(0, .ref (a 35)), (1, .ref (a (2 + 2 * x1))), (2, .int x2), (5, va_rf x5)] 173 []) (S : KS) (x1 : Nat) (x2 : Int32) (x4 : Int32) (x5 : Option Nat) (x6 : Int32) (x7 : Nat) (y0 : Int32) (h : w_X2_why_B139 cy tE post k79 k173 S x1 x2 x4 x5 x6 x7 y0) : Z p l e R s m args below meth c D A 10 (MQ below (QI D (U := KS) post (kw cy a rw) A) args s 0 0 A) 0 0 (kw cy a rw S) [(0, .ref (a 35)), (1, .ref (a (2 + 2 * x1))), (2, .int x2), (4, .int x4), (5, va_rf x5), (6, .int x6), (7, .ref x7)] 139 [.int y0] := by
  unfold w_X2_why_B139 at h
  refine z_istore (lv' := [(8, .int y0), (0, .ref (a 35)), (1, .ref (a (2 + 2 * x1))), (2, .int x2), (4, .int x4), (5, va_rf x5), (6, .int x6), (7, .ref x7)]) b dX2_why_139 (by decide) rfl ?_
  refine z_iload b dX2_why_141 rfl ?_
  refine y_if_eq (tgt := 167) (xl := y0.toInt) b rfl dX2_why_143 (by decide) (fun c1 => ?_) (fun c1 => ?_)
  · replace h := h.1 c1
    refine z_lv0 (lv' := [(0, .ref (a 35)), (1, .ref (a (2 + 2 * x1))), (2, .int x2), (4, .int x4), (5, va_rf x5), (6, .int x6)]) [1, 2, 3, 4, 5, 6] rfl ?_
    exact z_X2_why_B167 hrw b hk79 hk173 _ _ _ _ _ _ h
  · replace h := h.2 c1
    refine z_aload_n b dX2_why_146 rfl rfl ?_
    refine z_get (q0 := 35) (k9 := 1) (v := .ref (a 36)) b (kw_35 cy a rw S) rfl in_X2 (by decide) wf_X2_12 rfl dX2_why_147 ?_
    refine z_aload b dX2_why_150 rfl ?_
    obtain ⟨i54, f55, f56, g57, h⟩ := h
    refine z_get (q0 := 47 + i54) (k9 := 1) (v := .ref f56) b (kw_dyn cy a rw S g57) rfl in_X3 (by decide) wf_X2_76 rfl dX2_why_152 ?_
    refine z_calli b (z_runV (q0 := 36) (As := [.ref f56]) (st := []) b (k_X6_value hrw S f56 _ h) cf_X6_value (kw_36 cy a rw S) rfl wm_X2_64 wi_X6_value ws_X6_value dX2_why_155 rfl (Nat.le_of_ble_eq_true rfl) ⟨by decide, by decide, Nat.le_of_ble_eq_true rfl, Nat.le_of_ble_eq_true rfl⟩) (fun r58 S59 h => ?_)
    refine y_if_ne (tgt := 167) (xl := r58.toInt) b rfl dX2_why_158 (by decide) (fun c1 => ?_) (fun c1 => ?_)
    · replace h := h.1 c1
      refine z_lv0 (lv' := [(0, .ref (a 35)), (1, .ref (a (2 + 2 * x1))), (2, .int x2), (4, .int x4), (5, va_rf x5), (6, .int x6)]) [1, 2, 3, 4, 5, 6] rfl ?_
      exact z_X2_why_B167 hrw b hk79 hk173 _ _ _ _ _ _ h
    · replace h := h.2 c1
      refine z_bipush (v := 10) b dX2_why_161 (by decide) ?_
      refine z_iload b dX2_why_163 rfl ?_
      refine z_iadd b dX2_why_165 rfl ?_
      exact z_iret (u := S59) b rfl dX2_why_166 h rfl (by decide) (by decide)

def w_X2_why_B138 (cy : Nat → ClassId) (tE : Nat) (post : Int32 → KS → Prop) (k79 : KS → Nat → Int32 → Int32 → Option Nat → Int32 → Prop) (k173 : KS → Nat → Int32 → Option Nat → Prop) (S : KS) (x1 : Nat) (x2 : Int32) (x4 : Int32) (x5 : Option Nat) (x6 : Int32) (x7 : Nat) : Prop :=
  w_X2_why_B139 cy tE post k79 k173 S x1 x2 x4 x5 x6 x7 0

set_option maxHeartbeats 200000 in
set_option maxRecDepth 100000 in
theorem z_X2_why_B138 {p : Program} {l : Launch} {e : Env} {R : Room} {s : State} {m : MethodId} {args : Array Value} {below : List Frame} {meth : Method} {c : Code} {D : va_G} {cy : Nat → ClassId} {T0 tB tE : Nat} {A : Nat → Prop} {a : Nat → Nat} {rw : Nat → Option Nat} (hrw : ∀ i, i < 6 → rw i = some (a (12 + 2 * i))) {post : Int32 → KS → Prop} {k79 : KS → Nat → Int32 → Int32 → Option Nat → Int32 → Prop} {k173 : KS → Nat → Int32 → Option Nat → Prop} (b : Bz p R s m args meth c D cy T0 tB tE A 10 cX2_why RX2 (some .int) "why" 3 72 0 0) (hk79 : ∀ (S : KS) (x1 : Nat) (x2 : Int32) (x4 : Int32) (x5 : Option Nat) (x6 : Int32), k79 S x1 x2 x4 x5 x6 → Z p l e R s m args below meth c D A 10 (MQ below (QI D (U := KS) post (kw cy a rw) A) args s 0 0 A) 0 0 (kw cy a rw S) [(0, .ref (a 35)), (1, .ref (a (2 + 2 * x1))), (2, .int x2), (4, .int x4), (5, va_rf x5), (6, .int x6)] 79 []) (hk173 : ∀ (S : KS) (x1 : Nat) (x2 : Int32) (x5 : Option Nat), k173 S x1 x2 x5 → Z p l e R s m args below meth c D A 10 (MQ below (QI D (U := KS) post (kw cy a rw) A) args s 0 0 A) 0 0 (kw cy a rw S) [(0, .ref (a 35)), (1, .ref (a (2 + 2 * x1))), (2, .int x2), (5, va_rf x5)] 173 []) (S : KS) (x1 : Nat) (x2 : Int32) (x4 : Int32) (x5 : Option Nat) (x6 : Int32) (x7 : Nat) (h : w_X2_why_B138 cy tE post k79 k173 S x1 x2 x4 x5 x6 x7) : Z p l e R s m args below meth c D A 10 (MQ below (QI D (U := KS) post (kw cy a rw) A) args s 0 0 A) 0 0 (kw cy a rw S) [(0, .ref (a 35)), (1, .ref (a (2 + 2 * x1))), (2, .int x2), (4, .int x4), (5, va_rf x5), (6, .int x6), (7, .ref x7)] 138 [] := by
  unfold w_X2_why_B138 at h
  refine z_iconst (v := 0) b dX2_why_138 (by decide) ?_
  exact z_X2_why_B139 hrw b hk79 hk173 _ _ _ _ _ _ _ _ h

def w_X2_why_F79 (cy : Nat → ClassId) (tE : Nat) (post : Int32 → KS → Prop) (k173 : KS → Nat → Int32 → Option Nat → Prop) (k79 : KS → Nat → Int32 → Int32 → Option Nat → Int32 → Prop) (S : KS) (x1 : Nat) (x2 : Int32) (x4 : Int32) (x5 : Option Nat) (x6 : Int32) : Prop :=
  ∃ (i39 : Nat) (f40 : List Value), S.2.2.2[i39]? = some ((S.2.1 2), .inr (0, f40)) ∧ w_Jx4a65c_size_8abf5 cy tE S (S.2.1 2) (fun r42 S43 => ((r42.toInt ≤ x6.toInt → k173 S43 x1 x2 x5) ∧ (x6.toInt < r42.toInt → ∃ (i44 : Nat) (f45 : List Value), S43.2.2.2[i44]? = some ((S43.2.1 2), .inr (0, f45)) ∧ w_Jx4a65c_get_915e3 cy tE S43 (S43.2.1 2) x6 (fun r47 S48 => ∃ q49 : Nat, r47 = some q49 ∧ ∃ (i51 : Nat) (f52 : List Value), S48.2.2.2[i51]? = some (q49, .inr (4, f52)) ∧ ((((x4 >>> (x6 &&& 31)) &&& 1).toInt ≠ 1 → w_X2_why_B138 cy tE post k79 k173 S48 x1 x2 x4 x5 x6 q49) ∧ (((x4 >>> (x6 &&& 31)) &&& 1).toInt = 1 → ∃ (i60 : Nat) (f61 : Int32) (f62 : Value), S48.2.2.2[i60]? = some (q49, .inr (4, [.int f61, f62])) ∧ ((f61.toInt ≠ (x2 / 64).toInt → w_X2_why_B138 cy tE post k79 k173 S48 x1 x2 x4 x5 x6 q49) ∧ (f61.toInt = (x2 / 64).toInt → w_X2_why_B139 cy tE post k79 k173 S48 x1 x2 x4 x5 x6 q49 1))))))))

set_option maxHeartbeats 200000 in
set_option maxRecDepth 100000 in
theorem z_X2_why_F79 {p : Program} {l : Launch} {e : Env} {R : Room} {s : State} {m : MethodId} {args : Array Value} {below : List Frame} {meth : Method} {c : Code} {D : va_G} {cy : Nat → ClassId} {T0 tB tE : Nat} {A : Nat → Prop} {a : Nat → Nat} {rw : Nat → Option Nat} (hrw : ∀ i, i < 6 → rw i = some (a (12 + 2 * i))) {post : Int32 → KS → Prop} {k173 : KS → Nat → Int32 → Option Nat → Prop} {k79 : KS → Nat → Int32 → Int32 → Option Nat → Int32 → Prop} (b : Bz p R s m args meth c D cy T0 tB tE A 10 cX2_why RX2 (some .int) "why" 3 72 0 0) (hk173 : ∀ (S : KS) (x1 : Nat) (x2 : Int32) (x5 : Option Nat), k173 S x1 x2 x5 → Z p l e R s m args below meth c D A 10 (MQ below (QI D (U := KS) post (kw cy a rw) A) args s 0 0 A) 0 0 (kw cy a rw S) [(0, .ref (a 35)), (1, .ref (a (2 + 2 * x1))), (2, .int x2), (5, va_rf x5)] 173 []) (hk79 : ∀ (S : KS) (x1 : Nat) (x2 : Int32) (x4 : Int32) (x5 : Option Nat) (x6 : Int32), k79 S x1 x2 x4 x5 x6 → Z p l e R s m args below meth c D A 10 (MQ below (QI D (U := KS) post (kw cy a rw) A) args s 0 0 A) 0 0 (kw cy a rw S) [(0, .ref (a 35)), (1, .ref (a (2 + 2 * x1))), (2, .int x2), (4, .int x4), (5, va_rf x5), (6, .int x6)] 79 []) (S : KS) (x1 : Nat) (x2 : Int32) (x4 : Int32) (x5 : Option Nat) (x6 : Int32) (h : w_X2_why_F79 cy tE post k173 k79 S x1 x2 x4 x5 x6) : Z p l e R s m args below meth c D A 10 (MQ below (QI D (U := KS) post (kw cy a rw) A) args s 0 0 A) 0 0 (kw cy a rw S) [(0, .ref (a 35)), (1, .ref (a (2 + 2 * x1))), (2, .int x2), (4, .int x4), (5, va_rf x5), (6, .int x6)] 79 [] := by
  unfold w_X2_why_F79 at h
  refine z_iload b dX2_why_79 rfl ?_
  refine z_aload_n b dX2_why_81 rfl rfl ?_
  refine z_get (q0 := 35) (k9 := 0) (v := .ref (a 33)) b (kw_35 cy a rw S) rfl in_X2 (by decide) wf_X2_32 rfl dX2_why_82 ?_
  refine z_get (q0 := 33) (k9 := 2) (v := .ref (S.2.1 2)) b (kw_33 cy a rw S) rfl in_X4 (by decide) wf_X2_68 rfl dX2_why_85 ?_
  obtain ⟨i39, f40, g41, h⟩ := h
  refine z_calli b (z_runV (q0 := 47 + i39) (As := []) (st := [.int x6]) b (k_Jx4a65c_size_8abf5 hrw S (S.2.1 2) _ h) cf_Jx4a65c_size_8abf5 (kw_dyn cy a rw S g41) rfl wm_X2_52 wi_Jx4a65c_size_8abf5 ws_Jx4a65c_size_8abf5 dX2_why_88 rfl (Nat.le_of_ble_eq_true rfl) ⟨by decide, by decide, Nat.le_of_ble_eq_true rfl, Nat.le_of_ble_eq_true rfl⟩) (fun r42 S43 h => ?_)
  refine y_icmp_ge (tgt := 173) (xl := x6.toInt) (yl := r42.toInt) b rfl rfl dX2_why_91 (by decide) (fun c1 => ?_) (fun c1 => ?_)
  · replace h := h.1 c1
    refine z_lv0 (lv' := [(0, .ref (a 35)), (1, .ref (a (2 + 2 * x1))), (2, .int x2), (5, va_rf x5)]) [0, 1, 2, 4] rfl ?_
    exact hk173 _ _ _ _ h
  · replace h := h.2 c1
    refine z_aload_n b dX2_why_94 rfl rfl ?_
    refine z_get (q0 := 35) (k9 := 0) (v := .ref (a 33)) b (kw_35 cy a rw S43) rfl in_X2 (by decide) wf_X2_32 rfl dX2_why_95 ?_
    refine z_get (q0 := 33) (k9 := 2) (v := .ref (S43.2.1 2)) b (kw_33 cy a rw S43) rfl in_X4 (by decide) wf_X2_68 rfl dX2_why_98 ?_
    refine z_iload b dX2_why_101 rfl ?_
    obtain ⟨i44, f45, g46, h⟩ := h
    refine z_callq b (z_runV (q0 := 47 + i44) (As := [.int x6]) (st := []) b (k_Jx4a65c_get_915e3 hrw S43 (S43.2.1 2) x6 _ h) cf_Jx4a65c_get_915e3 (kw_dyn cy a rw S43 g46) rfl wm_X2_58 wi_Jx4a65c_get_915e3 ws_Jx4a65c_get_915e3 dX2_why_103 rfl (Nat.le_of_ble_eq_true rfl) ⟨by decide, by decide, Nat.le_of_ble_eq_true rfl, Nat.le_of_ble_eq_true rfl⟩) (fun r47 S48 h => ?_)
    obtain ⟨q49, g50, h⟩ := h
    subst g50
    obtain ⟨i51, f52, g53, h⟩ := h
    refine z_cast (q0 := 47 + i51) (ci := 4) b wk_X2_71 (kw_dyn cy a rw S48 g53) rfl dX2_why_106 ?_
    refine z_astore (lv' := [(7, .ref q49), (0, .ref (a 35)), (1, .ref (a (2 + 2 * x1))), (2, .int x2), (4, .int x4), (5, va_rf x5), (6, .int x6)]) b dX2_why_109 (by decide) rfl ?_
    refine z_iload b dX2_why_111 rfl ?_
    refine z_iload b dX2_why_113 rfl ?_
    refine z_ishr b dX2_why_115 rfl ?_
    refine z_iconst (v := 1) b dX2_why_116 (by decide) ?_
    refine z_iand b dX2_why_117 rfl ?_
    refine z_iconst (v := 1) b dX2_why_118 (by decide) ?_
    refine y_icmp_ne (tgt := 138) (xl := ((x4 >>> (x6 &&& 31)) &&& 1).toInt) (yl := 1) b rfl (by decide) dX2_why_119 (by decide) (fun c1 => ?_) (fun c1 => ?_)
    · replace h := h.1 c1
      refine z_lv0 (lv' := [(0, .ref (a 35)), (1, .ref (a (2 + 2 * x1))), (2, .int x2), (4, .int x4), (5, va_rf x5), (6, .int x6), (7, .ref q49)]) [1, 2, 3, 4, 5, 6, 0] rfl ?_
      exact z_X2_why_B138 hrw b hk79 hk173 _ _ _ _ _ _ _ h
    · replace h := h.2 c1
      refine z_aload b dX2_why_122 rfl ?_
      obtain ⟨i60, f61, f62, g63, h⟩ := h
      refine z_get (q0 := 47 + i60) (k9 := 0) (v := .int f61) b (kw_dyn cy a rw S48 g63) rfl in_X3 (by decide) wf_X2_73 rfl dX2_why_124 ?_
      refine z_iload_n b dX2_why_127 rfl rfl ?_
      refine z_bipush (v := 64) b dX2_why_128 (by decide) ?_
      refine z_idiv b dX2_why_130 (by decide) rfl ?_
      refine y_icmp_ne (tgt := 138) (xl := f61.toInt) (yl := (x2 / 64).toInt) b rfl rfl dX2_why_131 (by decide) (fun c1 => ?_) (fun c1 => ?_)
      · replace h := h.1 c1
        refine z_lv0 (lv' := [(0, .ref (a 35)), (1, .ref (a (2 + 2 * x1))), (2, .int x2), (4, .int x4), (5, va_rf x5), (6, .int x6), (7, .ref q49)]) [1, 2, 3, 4, 5, 6, 0] rfl ?_
        exact z_X2_why_B138 hrw b hk79 hk173 _ _ _ _ _ _ _ h
      · replace h := h.2 c1
        refine z_iconst (v := 1) b dX2_why_134 (by decide) ?_
        refine z_goto (tgt := 139) b dX2_why_135 (by decide) ?_
        refine z_lv0 (lv' := [(0, .ref (a 35)), (1, .ref (a (2 + 2 * x1))), (2, .int x2), (4, .int x4), (5, va_rf x5), (6, .int x6), (7, .ref q49)]) [1, 2, 3, 4, 5, 6, 0] rfl ?_
        exact z_X2_why_B139 hrw b hk79 hk173 _ _ _ _ _ _ _ _ h

set_option maxHeartbeats 200000 in
set_option maxRecDepth 100000 in
theorem zl_X2_why_L79 {p : Program} {l : Launch} {e : Env} {R : Room} {s : State} {m : MethodId} {args : Array Value} {below : List Frame} {meth : Method} {c : Code} {D : va_G} {cy : Nat → ClassId} {T0 tB tE : Nat} {A : Nat → Prop} {a : Nat → Nat} {rw : Nat → Option Nat} (hrw : ∀ i, i < 6 → rw i = some (a (12 + 2 * i))) {post : Int32 → KS → Prop} {k173 : KS → Nat → Int32 → Option Nat → Prop} (b : Bz p R s m args meth c D cy T0 tB tE A 10 cX2_why RX2 (some .int) "why" 3 72 0 0) (hk173 : ∀ (S : KS) (x1 : Nat) (x2 : Int32) (x5 : Option Nat), k173 S x1 x2 x5 → Z p l e R s m args below meth c D A 10 (MQ below (QI D (U := KS) post (kw cy a rw) A) args s 0 0 A) 0 0 (kw cy a rw S) [(0, .ref (a 35)), (1, .ref (a (2 + 2 * x1))), (2, .int x2), (5, va_rf x5)] 173 []) : ∀ (n : Nat) (S : KS) (x1 : Nat) (x2 : Int32) (x4 : Int32) (x5 : Option Nat) (x6 : Int32), lpn (w_X2_why_F79 cy tE post k173) (fun _ _ _ _ _ _ => False) n S x1 x2 x4 x5 x6 → Z p l e R s m args below meth c D A 10 (MQ below (QI D (U := KS) post (kw cy a rw) A) args s 0 0 A) 0 0 (kw cy a rw S) [(0, .ref (a 35)), (1, .ref (a (2 + 2 * x1))), (2, .int x2), (4, .int x4), (5, va_rf x5), (6, .int x6)] 79 [] := by
  intro n
  induction n with
  | zero => intro _ _ _ _ _ _ h; exact h.elim
  | succ n ih => intro S x1 x2 x4 x5 x6 h; exact z_X2_why_F79 hrw b hk173 ih S x1 x2 x4 x5 x6 h

def w_X2_why_F184 (cy : Nat → ClassId) (tE : Nat) (post : Int32 → KS → Prop) (k277 : KS → Prop) (k184 : KS → Int32 → Option Nat → Int32 → Prop) (S : KS) (x2 : Int32) (x5 : Option Nat) (x6 : Int32) : Prop :=
  ∃ q66 : Nat, x5 = some q66 ∧ ∃ (i68 : Nat) (f69 : Int64) (f70 : Value) (f71 : Nat) (f72 : Int32) (f73 : Int32), S.2.2.2[i68]? = some (q66, .inr (1, [.long f69, f70, .ref f71, .int f72, .int f73])) ∧ ∃ (i75 : Nat) (f76 : List Value), S.2.2.2[i75]? = some (f71, .inr (0, f76)) ∧ w_Jx4a65c_size_8abf5 cy tE S f71 (fun r78 S79 => ((r78.toInt ≤ x6.toInt → k277 S79) ∧ (x6.toInt < r78.toInt → ∃ (i80 : Nat) (f81 : Int64) (f82 : Value) (f83 : Nat) (f84 : Int32) (f85 : Int32), S79.2.2.2[i80]? = some (q66, .inr (1, [.long f81, f82, .ref f83, .int f84, .int f85])) ∧ ∃ (i87 : Nat) (f88 : List Value), S79.2.2.2[i87]? = some (f83, .inr (0, f88)) ∧ w_Jx4a65c_get_915e3 cy tE S79 f83 x6 (fun r90 S91 => ∃ q92 : Nat, r90 = some q92 ∧ ∃ (i94 : Nat) (f95 : List Value), S91.2.2.2[i94]? = some (q92, .inr (2, f95)) ∧ ∃ (i97 : Nat) (f98 : Int32) (f99 : Int32) (f100 : Value), S91.2.2.2[i97]? = some (q92, .inr (2, [.int f98, .int f99, f100])) ∧ w_X6_person cy tE S91 f99 (fun r102 S103 => ∃ (i104 : Nat) (f105 : Int32) (f106 : Int32) (f107 : Value), S103.2.2.2[i104]? = some (q92, .inr (2, [.int f105, .int f106, f107])) ∧ w_X6_person cy tE S103 ((1 : Int32) - f106) (fun r109 S110 => ∃ (i111 : Nat) (f112 : Int32) (f113 : Int32) (f114 : Value), S110.2.2.2[i111]? = some (q92, .inr (2, [.int f112, .int f113, f114])) ∧ w_X11_thingOf cy tE S110 x2 (fun r116 S117 => w_X6_value cy tE S117 q92 (fun r118 S119 => w_X9_change cy tE S119 2 f112 r102 r109 r116 r118 (fun S121 => k184 S121 x2 (some q66) (x6 + 1))))))))))

set_option maxHeartbeats 200000 in
set_option maxRecDepth 100000 in
theorem z_X2_why_F184 {p : Program} {l : Launch} {e : Env} {R : Room} {s : State} {m : MethodId} {args : Array Value} {below : List Frame} {meth : Method} {c : Code} {D : va_G} {cy : Nat → ClassId} {T0 tB tE : Nat} {A : Nat → Prop} {a : Nat → Nat} {rw : Nat → Option Nat} (hrw : ∀ i, i < 6 → rw i = some (a (12 + 2 * i))) {post : Int32 → KS → Prop} {k277 : KS → Prop} {k184 : KS → Int32 → Option Nat → Int32 → Prop} (b : Bz p R s m args meth c D cy T0 tB tE A 10 cX2_why RX2 (some .int) "why" 3 72 0 0) (hk277 : ∀ (S : KS), k277 S → Z p l e R s m args below meth c D A 10 (MQ below (QI D (U := KS) post (kw cy a rw) A) args s 0 0 A) 0 0 (kw cy a rw S) [(0, .ref (a 35))] 277 []) (hk184 : ∀ (S : KS) (x2 : Int32) (x5 : Option Nat) (x6 : Int32), k184 S x2 x5 x6 → Z p l e R s m args below meth c D A 10 (MQ below (QI D (U := KS) post (kw cy a rw) A) args s 0 0 A) 0 0 (kw cy a rw S) [(0, .ref (a 35)), (2, .int x2), (5, va_rf x5), (6, .int x6)] 184 []) (S : KS) (x2 : Int32) (x5 : Option Nat) (x6 : Int32) (h : w_X2_why_F184 cy tE post k277 k184 S x2 x5 x6) : Z p l e R s m args below meth c D A 10 (MQ below (QI D (U := KS) post (kw cy a rw) A) args s 0 0 A) 0 0 (kw cy a rw S) [(0, .ref (a 35)), (2, .int x2), (5, va_rf x5), (6, .int x6)] 184 [] := by
  unfold w_X2_why_F184 at h
  refine z_iload b dX2_why_184 rfl ?_
  refine z_aloadQ b dX2_why_186 rfl ?_
  obtain ⟨q66, g67, h⟩ := h
  subst g67
  obtain ⟨i68, f69, f70, f71, f72, f73, g74, h⟩ := h
  refine z_get (q0 := 47 + i68) (k9 := 2) (v := .ref f71) b (kw_dyn cy a rw S g74) rfl in_X0 (by decide) wf_X2_84 rfl dX2_why_188 ?_
  obtain ⟨i75, f76, g77, h⟩ := h
  refine z_calli b (z_runV (q0 := 47 + i75) (As := []) (st := [.int x6]) b (k_Jx4a65c_size_8abf5 hrw S f71 _ h) cf_Jx4a65c_size_8abf5 (kw_dyn cy a rw S g77) rfl wm_X2_52 wi_Jx4a65c_size_8abf5 ws_Jx4a65c_size_8abf5 dX2_why_191 rfl (Nat.le_of_ble_eq_true rfl) ⟨by decide, by decide, Nat.le_of_ble_eq_true rfl, Nat.le_of_ble_eq_true rfl⟩) (fun r78 S79 h => ?_)
  refine y_icmp_ge (tgt := 277) (xl := x6.toInt) (yl := r78.toInt) b rfl rfl dX2_why_194 (by decide) (fun c1 => ?_) (fun c1 => ?_)
  · replace h := h.1 c1
    refine z_lv0 (lv' := [(0, .ref (a 35))]) [0] rfl ?_
    exact hk277 _ h
  · replace h := h.2 c1
    refine z_aload b dX2_why_197 rfl ?_
    obtain ⟨i80, f81, f82, f83, f84, f85, g86, h⟩ := h
    refine z_get (q0 := 47 + i80) (k9 := 2) (v := .ref f83) b (kw_dyn cy a rw S79 g86) rfl in_X0 (by decide) wf_X2_84 rfl dX2_why_199 ?_
    refine z_iload b dX2_why_202 rfl ?_
    obtain ⟨i87, f88, g89, h⟩ := h
    refine z_callq b (z_runV (q0 := 47 + i87) (As := [.int x6]) (st := []) b (k_Jx4a65c_get_915e3 hrw S79 f83 x6 _ h) cf_Jx4a65c_get_915e3 (kw_dyn cy a rw S79 g89) rfl wm_X2_58 wi_Jx4a65c_get_915e3 ws_Jx4a65c_get_915e3 dX2_why_204 rfl (Nat.le_of_ble_eq_true rfl) ⟨by decide, by decide, Nat.le_of_ble_eq_true rfl, Nat.le_of_ble_eq_true rfl⟩) (fun r90 S91 h => ?_)
    obtain ⟨q92, g93, h⟩ := h
    subst g93
    obtain ⟨i94, f95, g96, h⟩ := h
    refine z_cast (q0 := 47 + i94) (ci := 2) b wk_X2_62 (kw_dyn cy a rw S91 g96) rfl dX2_why_207 ?_
    refine z_astore (lv' := [(7, .ref q92), (0, .ref (a 35)), (2, .int x2), (5, .ref q66), (6, .int x6)]) b dX2_why_210 (by decide) rfl ?_
    refine z_aload_n b dX2_why_212 rfl rfl ?_
    refine z_get (q0 := 35) (k9 := 1) (v := .ref (a 36)) b (kw_35 cy a rw S91) rfl in_X2 (by decide) wf_X2_12 rfl dX2_why_213 ?_
    refine z_aload b dX2_why_216 rfl ?_
    obtain ⟨i97, f98, f99, f100, g101, h⟩ := h
    refine z_get (q0 := 47 + i97) (k9 := 1) (v := .int f99) b (kw_dyn cy a rw S91 g101) rfl in_X1 (by decide) wf_X2_87 rfl dX2_why_218 ?_
    refine z_calli b (z_runV (q0 := 36) (As := [.int f99]) (st := []) b (k_X6_person hrw S91 f99 _ h) cf_X6_person (kw_36 cy a rw S91) rfl wm_X2_90 wi_X6_person ws_X6_person dX2_why_221 rfl (Nat.le_of_ble_eq_true rfl) ⟨by decide, by decide, Nat.le_of_ble_eq_true rfl, Nat.le_of_ble_eq_true rfl⟩) (fun r102 S103 h => ?_)
    refine z_istore (lv' := [(8, .int r102), (7, .ref q92), (0, .ref (a 35)), (2, .int x2), (5, .ref q66), (6, .int x6)]) b dX2_why_224 (by decide) rfl ?_
    refine z_aload_n b dX2_why_226 rfl rfl ?_
    refine z_get (q0 := 35) (k9 := 1) (v := .ref (a 36)) b (kw_35 cy a rw S103) rfl in_X2 (by decide) wf_X2_12 rfl dX2_why_227 ?_
    refine z_iconst (v := 1) b dX2_why_230 (by decide) ?_
    refine z_aload b dX2_why_231 rfl ?_
    obtain ⟨i104, f105, f106, f107, g108, h⟩ := h
    refine z_get (q0 := 47 + i104) (k9 := 1) (v := .int f106) b (kw_dyn cy a rw S103 g108) rfl in_X1 (by decide) wf_X2_87 rfl dX2_why_233 ?_
    refine z_isub b dX2_why_236 rfl ?_
    refine z_calli b (z_runV (q0 := 36) (As := [.int ((1 : Int32) - f106)]) (st := []) b (k_X6_person hrw S103 ((1 : Int32) - f106) _ h) cf_X6_person (kw_36 cy a rw S103) rfl wm_X2_90 wi_X6_person ws_X6_person dX2_why_237 rfl (Nat.le_of_ble_eq_true rfl) ⟨by decide, by decide, Nat.le_of_ble_eq_true rfl, Nat.le_of_ble_eq_true rfl⟩) (fun r109 S110 h => ?_)
    refine z_istore (lv' := [(9, .int r109), (8, .int r102), (7, .ref q92), (0, .ref (a 35)), (2, .int x2), (5, .ref q66), (6, .int x6)]) b dX2_why_240 (by decide) rfl ?_
    refine z_aload_n b dX2_why_242 rfl rfl ?_
    refine z_get (q0 := 35) (k9 := 2) (v := .ref (a 6)) b (kw_35 cy a rw S110) rfl in_X2 (by decide) wf_X2_21 rfl dX2_why_243 ?_
    refine z_aload b dX2_why_246 rfl ?_
    obtain ⟨i111, f112, f113, f114, g115, h⟩ := h
    refine z_get (q0 := 47 + i111) (k9 := 0) (v := .int f112) b (kw_dyn cy a rw S110 g115) rfl in_X1 (by decide) wf_X2_94 rfl dX2_why_248 ?_
    refine z_iload b dX2_why_251 rfl ?_
    refine z_iload b dX2_why_253 rfl ?_
    refine z_iload_n b dX2_why_255 rfl rfl ?_
    refine z_calli b (z_runSN (As := [.int x2]) (st := [.int r109, .int r102, .int f112, .ref (a 6)]) b (k_X11_thingOf hrw S110 x2 _ h) cf_X11_thingOf (nw_X2_97) ws_X11_thingOf dX2_why_256 rfl (Nat.le_of_ble_eq_true rfl) ⟨by decide, by decide, Nat.le_of_ble_eq_true rfl, Nat.le_of_ble_eq_true rfl⟩) (fun r116 S117 h => ?_)
    refine z_aload_n b dX2_why_259 rfl rfl ?_
    refine z_get (q0 := 35) (k9 := 1) (v := .ref (a 36)) b (kw_35 cy a rw S117) rfl in_X2 (by decide) wf_X2_12 rfl dX2_why_260 ?_
    refine z_aload b dX2_why_263 rfl ?_
    refine z_calli b (z_runV (q0 := 36) (As := [.ref q92]) (st := [.int r116, .int r109, .int r102, .int f112, .ref (a 6)]) b (k_X6_value hrw S117 q92 _ h) cf_X6_value (kw_36 cy a rw S117) rfl wm_X2_64 wi_X6_value ws_X6_value dX2_why_265 rfl (Nat.le_of_ble_eq_true rfl) ⟨by decide, by decide, Nat.le_of_ble_eq_true rfl, Nat.le_of_ble_eq_true rfl⟩) (fun r118 S119 h => ?_)
    refine z_callv b (z_runV (q0 := 6) (As := [.int f112, .int r102, .int r109, .int r116, .int r118]) (st := []) b (k_X9_change hrw S119 2 f112 r102 r109 r116 r118 _ h) cf_X9_change (kw_6 cy a rw S119) rfl wm_X2_100 wi_X9_change ws_X9_change dX2_why_268 rfl (Nat.le_of_ble_eq_true rfl) ⟨by decide, by decide, Nat.le_of_ble_eq_true rfl, Nat.le_of_ble_eq_true rfl⟩) (fun S121 h => ?_)
    refine z_iinc (k9 := 6) (v := (x6 + 1)) (lv' := [(6, .int (x6 + 1)), (9, .int r109), (8, .int r102), (7, .ref q92), (0, .ref (a 35)), (2, .int x2), (5, .ref q66)]) b dX2_why_271 rfl rfl (by decide) rfl ?_
    refine z_goto (tgt := 184) b dX2_why_274 (by decide) ?_
    refine z_lv0 (lv' := [(0, .ref (a 35)), (2, .int x2), (5, .ref q66), (6, .int (x6 + 1))]) [4, 5, 6, 0] rfl ?_
    exact hk184 _ _ _ _ h

set_option maxHeartbeats 200000 in
set_option maxRecDepth 100000 in
theorem zl_X2_why_L184 {p : Program} {l : Launch} {e : Env} {R : Room} {s : State} {m : MethodId} {args : Array Value} {below : List Frame} {meth : Method} {c : Code} {D : va_G} {cy : Nat → ClassId} {T0 tB tE : Nat} {A : Nat → Prop} {a : Nat → Nat} {rw : Nat → Option Nat} (hrw : ∀ i, i < 6 → rw i = some (a (12 + 2 * i))) {post : Int32 → KS → Prop} {k277 : KS → Prop} (b : Bz p R s m args meth c D cy T0 tB tE A 10 cX2_why RX2 (some .int) "why" 3 72 0 0) (hk277 : ∀ (S : KS), k277 S → Z p l e R s m args below meth c D A 10 (MQ below (QI D (U := KS) post (kw cy a rw) A) args s 0 0 A) 0 0 (kw cy a rw S) [(0, .ref (a 35))] 277 []) : ∀ (n : Nat) (S : KS) (x2 : Int32) (x5 : Option Nat) (x6 : Int32), lpn (w_X2_why_F184 cy tE post k277) (fun _ _ _ _ => False) n S x2 x5 x6 → Z p l e R s m args below meth c D A 10 (MQ below (QI D (U := KS) post (kw cy a rw) A) args s 0 0 A) 0 0 (kw cy a rw S) [(0, .ref (a 35)), (2, .int x2), (5, va_rf x5), (6, .int x6)] 184 [] := by
  intro n
  induction n with
  | zero => intro _ _ _ _ h; exact h.elim
  | succ n ih => intro S x2 x5 x6 h; exact z_X2_why_F184 hrw b hk277 ih S x2 x5 x6 h

def w_X2_why_B293 (cy : Nat → ClassId) (tE : Nat) (post : Int32 → KS → Prop) (S : KS) (y0 : Int32) : Prop :=
  post y0 S

set_option maxHeartbeats 200000 in
set_option maxRecDepth 100000 in
theorem z_X2_why_B293 {p : Program} {l : Launch} {e : Env} {R : Room} {s : State} {m : MethodId} {args : Array Value} {below : List Frame} {meth : Method} {c : Code} {D : va_G} {cy : Nat → ClassId} {T0 tB tE : Nat} {A : Nat → Prop} {a : Nat → Nat} {rw : Nat → Option Nat} (hrw : ∀ i, i < 6 → rw i = some (a (12 + 2 * i))) {post : Int32 → KS → Prop} (b : Bz p R s m args meth c D cy T0 tB tE A 10 cX2_why RX2 (some .int) "why" 3 72 0 0) (S : KS) (y0 : Int32) (h : w_X2_why_B293 cy tE post S y0) : Z p l e R s m args below meth c D A 10 (MQ below (QI D (U := KS) post (kw cy a rw) A) args s 0 0 A) 0 0 (kw cy a rw S) [] 293 [.int y0] := by
  unfold w_X2_why_B293 at h
  exact z_iret (u := S) b rfl dX2_why_293 h rfl (by decide) (by decide)

def w_X2_why_B277 (cy : Nat → ClassId) (tE : Nat) (post : Int32 → KS → Prop) (S : KS)  : Prop :=
  w_X9_isInBounds cy tE S 2 (fun r122 S123 => ((r122.toInt = 0 → w_X2_why_B293 cy tE post S123 20) ∧ (r122.toInt ≠ 0 → w_X2_why_B293 cy tE post S123 (-1))))

set_option maxHeartbeats 200000 in
set_option maxRecDepth 100000 in
theorem z_X2_why_B277 {p : Program} {l : Launch} {e : Env} {R : Room} {s : State} {m : MethodId} {args : Array Value} {below : List Frame} {meth : Method} {c : Code} {D : va_G} {cy : Nat → ClassId} {T0 tB tE : Nat} {A : Nat → Prop} {a : Nat → Nat} {rw : Nat → Option Nat} (hrw : ∀ i, i < 6 → rw i = some (a (12 + 2 * i))) {post : Int32 → KS → Prop} (b : Bz p R s m args meth c D cy T0 tB tE A 10 cX2_why RX2 (some .int) "why" 3 72 0 0) (S : KS)  (h : w_X2_why_B277 cy tE post S ) : Z p l e R s m args below meth c D A 10 (MQ below (QI D (U := KS) post (kw cy a rw) A) args s 0 0 A) 0 0 (kw cy a rw S) [(0, .ref (a 35))] 277 [] := by
  unfold w_X2_why_B277 at h
  refine z_aload_n b dX2_why_277 rfl rfl ?_
  refine z_get (q0 := 35) (k9 := 2) (v := .ref (a 6)) b (kw_35 cy a rw S) rfl in_X2 (by decide) wf_X2_21 rfl dX2_why_278 ?_
  refine z_calli b (z_runV (q0 := 6) (As := []) (st := []) b (k_X9_isInBounds hrw S 2 _ h) cf_X9_isInBounds (kw_6 cy a rw S) rfl wm_X2_104 wi_X9_isInBounds ws_X9_isInBounds dX2_why_281 rfl (Nat.le_of_ble_eq_true rfl) ⟨by decide, by decide, Nat.le_of_ble_eq_true rfl, Nat.le_of_ble_eq_true rfl⟩) (fun r122 S123 h => ?_)
  refine y_if_eq (tgt := 291) (xl := r122.toInt) b rfl dX2_why_284 (by decide) (fun c1 => ?_) (fun c1 => ?_)
  · replace h := h.1 c1
    refine z_bipush (v := 20) b dX2_why_291 (by decide) ?_
    refine z_lv0 (lv' := []) [] rfl ?_
    exact z_X2_why_B293 hrw b _ _ h
  · replace h := h.2 c1
    refine z_iconst (v := (-1)) b dX2_why_287 (by decide) ?_
    refine z_goto (tgt := 293) b dX2_why_288 (by decide) ?_
    refine z_lv0 (lv' := []) [] rfl ?_
    exact z_X2_why_B293 hrw b _ _ h

def w_X2_why_B173 (cy : Nat → ClassId) (tE : Nat) (post : Int32 → KS → Prop) (S : KS) (x1 : Nat) (x2 : Int32) (x5 : Option Nat) : Prop :=
  w_X9_copy cy tE S 2 x1 (fun S65 => ∃ n, lpn (w_X2_why_F184 cy tE post (w_X2_why_B277 cy tE post)) (fun _ _ _ _ => False) n S65 x2 x5 0)

set_option maxHeartbeats 200000 in
set_option maxRecDepth 100000 in
theorem z_X2_why_B173 {p : Program} {l : Launch} {e : Env} {R : Room} {s : State} {m : MethodId} {args : Array Value} {below : List Frame} {meth : Method} {c : Code} {D : va_G} {cy : Nat → ClassId} {T0 tB tE : Nat} {A : Nat → Prop} {a : Nat → Nat} {rw : Nat → Option Nat} (hrw : ∀ i, i < 6 → rw i = some (a (12 + 2 * i))) {post : Int32 → KS → Prop} (b : Bz p R s m args meth c D cy T0 tB tE A 10 cX2_why RX2 (some .int) "why" 3 72 0 0) (S : KS) (x1 : Nat) (x2 : Int32) (x5 : Option Nat) (h : w_X2_why_B173 cy tE post S x1 x2 x5) : Z p l e R s m args below meth c D A 10 (MQ below (QI D (U := KS) post (kw cy a rw) A) args s 0 0 A) 0 0 (kw cy a rw S) [(0, .ref (a 35)), (1, .ref (a (2 + 2 * x1))), (2, .int x2), (5, va_rf x5)] 173 [] := by
  unfold w_X2_why_B173 at h
  refine z_aload_n b dX2_why_173 rfl rfl ?_
  refine z_get (q0 := 35) (k9 := 2) (v := .ref (a 6)) b (kw_35 cy a rw S) rfl in_X2 (by decide) wf_X2_21 rfl dX2_why_174 ?_
  refine z_aload_n b dX2_why_177 rfl rfl ?_
  refine z_callv b (z_runV (q0 := 6) (As := [.ref (a (2 + 2 * x1))]) (st := []) b (k_X9_copy hrw S 2 x1 _ h) cf_X9_copy (kw_6 cy a rw S) rfl wm_X2_80 wi_X9_copy ws_X9_copy dX2_why_178 rfl (Nat.le_of_ble_eq_true rfl) ⟨by decide, by decide, Nat.le_of_ble_eq_true rfl, Nat.le_of_ble_eq_true rfl⟩) (fun S65 h => ?_)
  refine z_iconst (v := 0) b dX2_why_181 (by decide) ?_
  refine z_istore (lv' := [(6, .int 0), (0, .ref (a 35)), (1, .ref (a (2 + 2 * x1))), (2, .int x2), (5, va_rf x5)]) b dX2_why_182 (by decide) (by cases x5 <;> rfl) ?_
  refine z_lv0 (lv' := [(0, .ref (a 35)), (2, .int x2), (5, va_rf x5), (6, .int 0)]) [1, 3, 4, 0] rfl ?_
  obtain ⟨n, h⟩ := h
  exact zl_X2_why_L184 hrw b (fun S h => z_X2_why_B277 hrw b _ h) n _ _ _ _ h

def w_X2_why_B76 (cy : Nat → ClassId) (tE : Nat) (post : Int32 → KS → Prop) (S : KS) (x1 : Nat) (x2 : Int32) (x4 : Int32) (x5 : Option Nat) : Prop :=
  ∃ n, lpn (w_X2_why_F79 cy tE post (w_X2_why_B173 cy tE post)) (fun _ _ _ _ _ _ => False) n S x1 x2 x4 x5 0

set_option maxHeartbeats 200000 in
set_option maxRecDepth 100000 in
theorem z_X2_why_B76 {p : Program} {l : Launch} {e : Env} {R : Room} {s : State} {m : MethodId} {args : Array Value} {below : List Frame} {meth : Method} {c : Code} {D : va_G} {cy : Nat → ClassId} {T0 tB tE : Nat} {A : Nat → Prop} {a : Nat → Nat} {rw : Nat → Option Nat} (hrw : ∀ i, i < 6 → rw i = some (a (12 + 2 * i))) {post : Int32 → KS → Prop} (b : Bz p R s m args meth c D cy T0 tB tE A 10 cX2_why RX2 (some .int) "why" 3 72 0 0) (S : KS) (x1 : Nat) (x2 : Int32) (x4 : Int32) (x5 : Option Nat) (h : w_X2_why_B76 cy tE post S x1 x2 x4 x5) : Z p l e R s m args below meth c D A 10 (MQ below (QI D (U := KS) post (kw cy a rw) A) args s 0 0 A) 0 0 (kw cy a rw S) [(0, .ref (a 35)), (1, .ref (a (2 + 2 * x1))), (2, .int x2), (4, .int x4), (5, va_rf x5)] 76 [] := by
  unfold w_X2_why_B76 at h
  refine z_iconst (v := 0) b dX2_why_76 (by decide) ?_
  refine z_istore (lv' := [(6, .int 0), (0, .ref (a 35)), (1, .ref (a (2 + 2 * x1))), (2, .int x2), (4, .int x4), (5, va_rf x5)]) b dX2_why_77 (by decide) (by cases x5 <;> rfl) ?_
  refine z_lv0 (lv' := [(0, .ref (a 35)), (1, .ref (a (2 + 2 * x1))), (2, .int x2), (4, .int x4), (5, va_rf x5), (6, .int 0)]) [1, 2, 3, 4, 5, 0] rfl ?_
  obtain ⟨n, h⟩ := h
  exact zl_X2_why_L79 hrw b (fun S x1 x2 x5 h => z_X2_why_B173 hrw b _ _ _ _ h) n _ _ _ _ _ _ h

def w_X2_why (cy : Nat → ClassId) (tE : Nat) (S : KS) (p0 : Nat) (p1 : Int32) (p2 : Int32) (p3 : Int32) (post : Int32 → KS → Prop) : Prop :=
  w_X4_actOf cy tE S p1 p2 (fun r1 S2 => ((r1 = none → post 30 S2) ∧ (∀ q3 : Nat, r1 = some q3 → w_X6_look cy tE S2 p0 p1 (fun S5 => ∃ n, lpn (w_X2_why_F31 cy tE post (w_X2_why_B76 cy tE post)) (fun _ _ _ _ _ _ => False) n S5 p0 p1 p3 (some q3) 0))))

set_option maxHeartbeats 200000 in
set_option maxRecDepth 100000 in
theorem k_X2_why {l : Launch} {D : va_G} {cy : Nat → ClassId} {T0 tB tE : Nat} {a : Nat → Nat} {rw : Nat → Option Nat} (hrw : ∀ i, i < 6 → rw i = some (a (12 + 2 * i))) (S : KS) (p0 : Nat) (p1 : Int32) (p2 : Int32) (p3 : Int32) (post : Int32 → KS → Prop) (h : w_X2_why cy tE S p0 p1 p2 p3 post) : Ct l D cy T0 tB tE yX2_why cX2_why 10 (some .int) 3 72 0 0 (kw cy a rw S) [.ref (a 35), .ref (a (2 + 2 * p0)), .int p1, .int p2, .int p3] (QI D (U := KS) post (kw cy a rw)) := by
  refine Ct.ofZ RX2 "why" [(0, .ref (a 35)), (1, .ref (a (2 + 2 * p0))), (2, .int p1), (3, .int p2), (4, .int p3)] rfl rfl rfl rfl (Nat.le_of_ble_eq_true rfl) ?_
  intro p e R s m args below meth c A b
  unfold w_X2_why at h
  refine z_aload_n b dX2_why_0 rfl rfl ?_
  refine z_get (q0 := 35) (k9 := 0) (v := .ref (a 33)) b (kw_35 cy a rw S) rfl in_X2 (by decide) wf_X2_32 rfl dX2_why_1 ?_
  refine z_iload_n b dX2_why_4 rfl rfl ?_
  refine z_iload_n b dX2_why_5 rfl rfl ?_
  refine z_callq b (z_runV (q0 := 33) (As := [.int p1, .int p2]) (st := []) b (k_X4_actOf hrw S p1 p2 _ h) cf_X4_actOf (kw_33 cy a rw S) rfl wm_X2_36 wi_X4_actOf ws_X4_actOf dX2_why_6 rfl (Nat.le_of_ble_eq_true rfl) ⟨by decide, by decide, Nat.le_of_ble_eq_true rfl, Nat.le_of_ble_eq_true rfl⟩) (fun r1 S2 h => ?_)
  refine z_astoreQ (lv' := [(5, va_rf r1), (0, .ref (a 35)), (1, .ref (a (2 + 2 * p0))), (2, .int p1), (3, .int p2), (4, .int p3)]) b dX2_why_9 (by decide) rfl ?_
  refine z_aloadQ b dX2_why_11 rfl ?_
  cases r1 with
  | none =>
    replace h := h.1 rfl
    refine z_ifnonnullN b dX2_why_13 ?_
    refine z_bipush (v := 30) b dX2_why_16 (by decide) ?_
    exact z_iret (u := S2) b rfl dX2_why_18 h rfl (by decide) (by decide)
  | some q3 =>
    replace h := h.2 q3 rfl
    refine z_ifnonnull (tgt := 19) b dX2_why_13 (by decide) ?_
    refine z_aload_n b dX2_why_19 rfl rfl ?_
    refine z_get (q0 := 35) (k9 := 1) (v := .ref (a 36)) b (kw_35 cy a rw S2) rfl in_X2 (by decide) wf_X2_12 rfl dX2_why_20 ?_
    refine z_aload_n b dX2_why_23 rfl rfl ?_
    refine z_iload_n b dX2_why_24 rfl rfl ?_
    refine z_callv b (z_runV (q0 := 36) (As := [.ref (a (2 + 2 * p0)), .int p1]) (st := []) b (k_X6_look hrw S2 p0 p1 _ h) cf_X6_look (kw_36 cy a rw S2) rfl wm_X2_42 wi_X6_look ws_X6_look dX2_why_25 rfl (Nat.le_of_ble_eq_true rfl) ⟨by decide, by decide, Nat.le_of_ble_eq_true rfl, Nat.le_of_ble_eq_true rfl⟩) (fun S5 h => ?_)
    refine z_iconst (v := 0) b dX2_why_28 (by decide) ?_
    refine z_istore (lv' := [(6, .int 0), (5, .ref q3), (0, .ref (a 35)), (1, .ref (a (2 + 2 * p0))), (2, .int p1), (3, .int p2), (4, .int p3)]) b dX2_why_29 (by decide) rfl ?_
    refine z_lv0 (lv' := [(0, .ref (a 35)), (1, .ref (a (2 + 2 * p0))), (2, .int p1), (4, .int p3), (5, .ref q3), (6, .int 0)]) [2, 3, 4, 6, 1, 0] rfl ?_
    obtain ⟨n, h⟩ := h
    exact zl_X2_why_L31 hrw b (fun S x1 x2 x4 x5 h => z_X2_why_B76 hrw b _ _ _ _ _ h) n _ _ _ _ _ _ h

def w_X11_become_B42 (cy : Nat → ClassId) (tE : Nat) (post : Int32 → KS → Prop) (S : KS) (y0 : Int32) : Prop :=
  post y0 S

set_option maxHeartbeats 200000 in
set_option maxRecDepth 100000 in
theorem z_X11_become_B42 {p : Program} {l : Launch} {e : Env} {R : Room} {s : State} {m : MethodId} {args : Array Value} {below : List Frame} {meth : Method} {c : Code} {D : va_G} {cy : Nat → ClassId} {T0 tB tE : Nat} {A : Nat → Prop} {a : Nat → Nat} {rw : Nat → Option Nat} (hrw : ∀ i, i < 6 → rw i = some (a (12 + 2 * i))) {post : Int32 → KS → Prop} (b : Bz p R s m args meth c D cy T0 tB tE A 3 cX11_become RX11 (some .int) "become" 0 0 0 0) (S : KS) (y0 : Int32) (h : w_X11_become_B42 cy tE post S y0) : Z p l e R s m args below meth c D A 3 (MQ below (QI D (U := KS) post (kw cy a rw) A) args s 0 0 A) 0 0 (kw cy a rw S) [] 42 [.int y0] := by
  unfold w_X11_become_B42 at h
  exact z_iret (u := S) b rfl dX11_become_42 h rfl (by decide) (by decide)

def w_X11_become_B24 (cy : Nat → ClassId) (tE : Nat) (post : Int32 → KS → Prop) (S : KS) (x0 : Int32) (x1 : Int32) (y0 : Int32) : Prop :=
  ((y0.toInt = 0 → w_X11_become_B42 cy tE post S 3) ∧ (y0.toInt ≠ 0 → (0 ≤ (((3 : Int32) * x0) + x1).toInt ∧ (((3 : Int32) * x0) + x1).toInt < 18) ∧ w_X11_become_B42 cy tE post S (becI ((((3 : Int32) * x0) + x1).toNatClampNeg))))

set_option maxHeartbeats 200000 in
set_option maxRecDepth 100000 in
theorem z_X11_become_B24 {p : Program} {l : Launch} {e : Env} {R : Room} {s : State} {m : MethodId} {args : Array Value} {below : List Frame} {meth : Method} {c : Code} {D : va_G} {cy : Nat → ClassId} {T0 tB tE : Nat} {A : Nat → Prop} {a : Nat → Nat} {rw : Nat → Option Nat} (hrw : ∀ i, i < 6 → rw i = some (a (12 + 2 * i))) {post : Int32 → KS → Prop} (b : Bz p R s m args meth c D cy T0 tB tE A 3 cX11_become RX11 (some .int) "become" 0 0 0 0) (S : KS) (x0 : Int32) (x1 : Int32) (y0 : Int32) (h : w_X11_become_B24 cy tE post S x0 x1 y0) : Z p l e R s m args below meth c D A 3 (MQ below (QI D (U := KS) post (kw cy a rw) A) args s 0 0 A) 0 0 (kw cy a rw S) [(0, .int x0), (1, .int x1)] 24 [.int y0] := by
  unfold w_X11_become_B24 at h
  refine z_istore_n (lv' := [(2, .int y0), (0, .int x0), (1, .int x1)]) b dX11_become_24 rfl (by decide) rfl ?_
  refine z_iload_n b dX11_become_25 rfl rfl ?_
  refine y_if_eq (tgt := 41) (xl := y0.toInt) b rfl dX11_become_26 (by decide) (fun c1 => ?_) (fun c1 => ?_)
  · replace h := h.1 c1
    refine z_iconst (v := 3) b dX11_become_41 (by decide) ?_
    refine z_lv0 (lv' := []) [] rfl ?_
    exact z_X11_become_B42 hrw b _ _ h
  · replace h := h.2 c1
    refine z_getB b wf_X11_255 dX11_become_29 ?_
    refine z_iconst (v := 3) b dX11_become_32 (by decide) ?_
    refine z_iload_n b dX11_become_33 rfl rfl ?_
    refine z_imul b dX11_become_34 rfl ?_
    refine z_iload_n b dX11_become_35 rfl rfl ?_
    refine z_iadd b dX11_become_36 rfl ?_
    obtain ⟨g1, h⟩ := h
    refine z_bec (j := (((3 : Int32) * x0) + x1).toNatClampNeg) (v := (becI ((((3 : Int32) * x0) + x1).toNatClampNeg))) b (zx_r g1.1 g1.2) rfl dX11_become_37 ?_
    refine z_goto (tgt := 42) b dX11_become_38 (by decide) ?_
    refine z_lv0 (lv' := []) [] rfl ?_
    exact z_X11_become_B42 hrw b _ _ h

def w_X11_become_B23 (cy : Nat → ClassId) (tE : Nat) (post : Int32 → KS → Prop) (S : KS) (x0 : Int32) (x1 : Int32) : Prop :=
  w_X11_become_B24 cy tE post S x0 x1 0

set_option maxHeartbeats 200000 in
set_option maxRecDepth 100000 in
theorem z_X11_become_B23 {p : Program} {l : Launch} {e : Env} {R : Room} {s : State} {m : MethodId} {args : Array Value} {below : List Frame} {meth : Method} {c : Code} {D : va_G} {cy : Nat → ClassId} {T0 tB tE : Nat} {A : Nat → Prop} {a : Nat → Nat} {rw : Nat → Option Nat} (hrw : ∀ i, i < 6 → rw i = some (a (12 + 2 * i))) {post : Int32 → KS → Prop} (b : Bz p R s m args meth c D cy T0 tB tE A 3 cX11_become RX11 (some .int) "become" 0 0 0 0) (S : KS) (x0 : Int32) (x1 : Int32) (h : w_X11_become_B23 cy tE post S x0 x1) : Z p l e R s m args below meth c D A 3 (MQ below (QI D (U := KS) post (kw cy a rw) A) args s 0 0 A) 0 0 (kw cy a rw S) [(0, .int x0), (1, .int x1)] 23 [] := by
  unfold w_X11_become_B23 at h
  refine z_iconst (v := 0) b dX11_become_23 (by decide) ?_
  exact z_X11_become_B24 hrw b _ _ _ _ h

def w_X11_become (cy : Nat → ClassId) (tE : Nat) (S : KS) (p0 : Int32) (p1 : Int32) (post : Int32 → KS → Prop) : Prop :=
  ((p0.toInt < 0 → w_X11_become_B23 cy tE post S p0 p1) ∧ (0 ≤ p0.toInt → ((6 ≤ p0.toInt → w_X11_become_B23 cy tE post S p0 p1) ∧ (p0.toInt < 6 → ((p1.toInt < 0 → w_X11_become_B23 cy tE post S p0 p1) ∧ (0 ≤ p1.toInt → ((3 ≤ p1.toInt → w_X11_become_B23 cy tE post S p0 p1) ∧ (p1.toInt < 3 → w_X11_become_B24 cy tE post S p0 p1 1))))))))

set_option maxHeartbeats 200000 in
set_option maxRecDepth 100000 in
theorem k_X11_become {l : Launch} {D : va_G} {cy : Nat → ClassId} {T0 tB tE : Nat} {a : Nat → Nat} {rw : Nat → Option Nat} (hrw : ∀ i, i < 6 → rw i = some (a (12 + 2 * i))) (S : KS) (p0 : Int32) (p1 : Int32) (post : Int32 → KS → Prop) (h : w_X11_become cy tE S p0 p1 post) : Ct l D cy T0 tB tE yX11_become cX11_become 3 (some .int) 0 0 0 0 (kw cy a rw S) [.int p0, .int p1] (QI D (U := KS) post (kw cy a rw)) := by
  refine Ct.ofZ RX11 "become" [(0, .int p0), (1, .int p1)] rfl rfl rfl rfl (Nat.le_of_ble_eq_true rfl) ?_
  intro p e R s m args below meth c A b
  unfold w_X11_become at h
  refine z_iload_n b dX11_become_0 rfl rfl ?_
  refine y_if_lt (tgt := 23) (xl := p0.toInt) b rfl dX11_become_1 (by decide) (fun c1 => ?_) (fun c1 => ?_)
  · replace h := h.1 c1
    exact z_X11_become_B23 hrw b _ _ _ h
  · replace h := h.2 c1
    refine z_iload_n b dX11_become_4 rfl rfl ?_
    refine z_bipush (v := 6) b dX11_become_5 (by decide) ?_
    refine y_icmp_ge (tgt := 23) (xl := p0.toInt) (yl := 6) b rfl (by decide) dX11_become_7 (by decide) (fun c1 => ?_) (fun c1 => ?_)
    · replace h := h.1 c1
      exact z_X11_become_B23 hrw b _ _ _ h
    · replace h := h.2 c1
      refine z_iload_n b dX11_become_10 rfl rfl ?_
      refine y_if_lt (tgt := 23) (xl := p1.toInt) b rfl dX11_become_11 (by decide) (fun c1 => ?_) (fun c1 => ?_)
      · replace h := h.1 c1
        exact z_X11_become_B23 hrw b _ _ _ h
      · replace h := h.2 c1
        refine z_iload_n b dX11_become_14 rfl rfl ?_
        refine z_iconst (v := 3) b dX11_become_15 (by decide) ?_
        refine y_icmp_ge (tgt := 23) (xl := p1.toInt) (yl := 3) b rfl (by decide) dX11_become_16 (by decide) (fun c1 => ?_) (fun c1 => ?_)
        · replace h := h.1 c1
          exact z_X11_become_B23 hrw b _ _ _ h
        · replace h := h.2 c1
          refine z_iconst (v := 1) b dX11_become_19 (by decide) ?_
          refine z_goto (tgt := 24) b dX11_become_20 (by decide) ?_
          exact z_X11_become_B24 hrw b _ _ _ _ h

def w_X9_packed_F12 (cy : Nat → ClassId) (tE : Nat) (post : Int64 → KS → Prop) (k52 : KS → Nat → Int32 → Int64 → Prop) (k12 : KS → Nat → Int32 → Int32 → Int64 → Int32 → Prop) (S : KS) (x0 : Nat) (x1 : Int32) (x2 : Int32) (x3 : Int64) (x5 : Int32) : Prop :=
  ((3 ≤ x5.toInt → k52 S x0 x1 x3) ∧ (x5.toInt < 3 → (x0 < 5) ∧ (x0 < 5) ∧ (0 ≤ ((40 : Int32) + x5).toInt ∧ ((40 : Int32) + x5).toInt < 51) ∧ w_X11_become cy tE S x1 ((ar S.1 (1 + x0)) ((40 : Int32) + x5).toNatClampNeg) (fun r6 S7 => w_X11_become cy tE S7 x2 x5 (fun r8 S9 => w_X9_ownerShift cy tE S9 r8 (fun r10 S11 => k12 S11 x0 x1 x2 (x3 ||| ((r6 : Int32).toInt64 <<< ((r10 : Int32).toInt64 &&& 63))) (x5 + 1))))))

set_option maxHeartbeats 200000 in
set_option maxRecDepth 100000 in
theorem z_X9_packed_F12 {p : Program} {l : Launch} {e : Env} {R : Room} {s : State} {m : MethodId} {args : Array Value} {below : List Frame} {meth : Method} {c : Code} {D : va_G} {cy : Nat → ClassId} {T0 tB tE : Nat} {A : Nat → Prop} {a : Nat → Nat} {rw : Nat → Option Nat} (hrw : ∀ i, i < 6 → rw i = some (a (12 + 2 * i))) {post : Int64 → KS → Prop} {k52 : KS → Nat → Int32 → Int64 → Prop} {k12 : KS → Nat → Int32 → Int32 → Int64 → Int32 → Prop} (b : Bz p R s m args meth c D cy T0 tB tE A 10 cX9_packed RX9 (some .long) "packed" 1 22 0 0) (hk52 : ∀ (S : KS) (x0 : Nat) (x1 : Int32) (x3 : Int64), k52 S x0 x1 x3 → Z p l e R s m args below meth c D A 10 (MQ below (QL D (U := KS) post (kw cy a rw) A) args s 0 0 A) 0 0 (kw cy a rw S) [(0, .ref (a (2 + 2 * x0))), (1, .int x1), (3, .long x3)] 52 []) (hk12 : ∀ (S : KS) (x0 : Nat) (x1 : Int32) (x2 : Int32) (x3 : Int64) (x5 : Int32), k12 S x0 x1 x2 x3 x5 → Z p l e R s m args below meth c D A 10 (MQ below (QL D (U := KS) post (kw cy a rw) A) args s 0 0 A) 0 0 (kw cy a rw S) [(0, .ref (a (2 + 2 * x0))), (1, .int x1), (2, .int x2), (3, .long x3), (5, .int x5)] 12 []) (S : KS) (x0 : Nat) (x1 : Int32) (x2 : Int32) (x3 : Int64) (x5 : Int32) (h : w_X9_packed_F12 cy tE post k52 k12 S x0 x1 x2 x3 x5) : Z p l e R s m args below meth c D A 10 (MQ below (QL D (U := KS) post (kw cy a rw) A) args s 0 0 A) 0 0 (kw cy a rw S) [(0, .ref (a (2 + 2 * x0))), (1, .int x1), (2, .int x2), (3, .long x3), (5, .int x5)] 12 [] := by
  unfold w_X9_packed_F12 at h
  refine z_iload b dX9_packed_12 rfl ?_
  refine z_iconst (v := 3) b dX9_packed_14 (by decide) ?_
  refine y_icmp_ge (tgt := 52) (xl := x5.toInt) (yl := 3) b rfl (by decide) dX9_packed_15 (by decide) (fun c1 => ?_) (fun c1 => ?_)
  · replace h := h.1 c1
    refine z_lv0 (lv' := [(0, .ref (a (2 + 2 * x0))), (1, .int x1), (3, .long x3)]) [0, 1, 3] rfl ?_
    exact hk52 _ _ _ _ h
  · replace h := h.2 c1
    refine z_lload_n b dX9_packed_18 rfl rfl ?_
    refine z_iload_n b dX9_packed_19 rfl rfl ?_
    refine z_aload_n b dX9_packed_20 rfl rfl ?_
    obtain ⟨g3, h⟩ := h
    refine z_get (q0 := 2 + 2 * x0) (k9 := 0) (v := .ref (a (3 + 2 * x0))) b (kw_so cy a rw S g3) rfl in_X9 (by decide) wf_X9_11 rfl dX9_packed_21 ?_
    refine z_bipush (v := 40) b dX9_packed_24 (by decide) ?_
    refine z_iload b dX9_packed_26 rfl ?_
    refine z_iadd b dX9_packed_28 rfl ?_
    obtain ⟨g4, h⟩ := h
    obtain ⟨g5, h⟩ := h
    refine y_iald (q0 := 3 + 2 * x0) (j := ((40 : Int32) + x5).toNatClampNeg) (v := ((ar S.1 (1 + x0)) ((40 : Int32) + x5).toNatClampNeg)) b (kw_sr cy a rw S g4) (zx_r g5.1 g5.2) rfl dX9_packed_29 ?_
    refine z_calli b (z_runSN (As := [.int x1, .int ((ar S.1 (1 + x0)) ((40 : Int32) + x5).toNatClampNeg)]) (st := [.long x3]) b (k_X11_become hrw S x1 ((ar S.1 (1 + x0)) ((40 : Int32) + x5).toNatClampNeg) _ h) cf_X11_become (nw_X9_45) ws_X11_become dX9_packed_30 rfl (Nat.le_of_ble_eq_true rfl) ⟨by decide, by decide, Nat.le_of_ble_eq_true rfl, Nat.le_of_ble_eq_true rfl⟩) (fun r6 S7 h => ?_)
    refine z_i2l b dX9_packed_33 rfl ?_
    refine z_iload_n b dX9_packed_34 rfl rfl ?_
    refine z_iload b dX9_packed_35 rfl ?_
    refine z_calli b (z_runSN (As := [.int x2, .int x5]) (st := [.long (r6 : Int32).toInt64, .long x3]) b (k_X11_become hrw S7 x2 x5 _ h) cf_X11_become (nw_X9_45) ws_X11_become dX9_packed_37 rfl (Nat.le_of_ble_eq_true rfl) ⟨by decide, by decide, Nat.le_of_ble_eq_true rfl, Nat.le_of_ble_eq_true rfl⟩) (fun r8 S9 h => ?_)
    refine z_calli b (z_runS (As := [.int r8]) (st := [.long (r6 : Int32).toInt64, .long x3]) b (k_X9_ownerShift hrw S9 r8 _ h) cf_X9_ownerShift wm_X9_49 ws_X9_ownerShift dX9_packed_40 rfl (Nat.le_of_ble_eq_true rfl) ⟨by decide, by decide, Nat.le_of_ble_eq_true rfl, Nat.le_of_ble_eq_true rfl⟩) (fun r10 S11 h => ?_)
    refine z_lshl b dX9_packed_43 rfl ?_
    refine z_lor b dX9_packed_44 rfl ?_
    refine z_lstore_n (lv' := [(3, .long (x3 ||| ((r6 : Int32).toInt64 <<< ((r10 : Int32).toInt64 &&& 63)))), (0, .ref (a (2 + 2 * x0))), (1, .int x1), (2, .int x2), (5, .int x5)]) b dX9_packed_45 rfl (by decide) rfl ?_
    refine z_iinc (k9 := 4) (v := (x5 + 1)) (lv' := [(5, .int (x5 + 1)), (3, .long (x3 ||| ((r6 : Int32).toInt64 <<< ((r10 : Int32).toInt64 &&& 63)))), (0, .ref (a (2 + 2 * x0))), (1, .int x1), (2, .int x2)]) b dX9_packed_46 rfl rfl (by decide) rfl ?_
    refine z_goto (tgt := 12) b dX9_packed_49 (by decide) ?_
    refine z_lv0 (lv' := [(0, .ref (a (2 + 2 * x0))), (1, .int x1), (2, .int x2), (3, .long (x3 ||| ((r6 : Int32).toInt64 <<< ((r10 : Int32).toInt64 &&& 63)))), (5, .int (x5 + 1))]) [2, 3, 4, 1, 0] rfl ?_
    exact hk12 _ _ _ _ _ _ h

set_option maxHeartbeats 200000 in
set_option maxRecDepth 100000 in
theorem zl_X9_packed_L12 {p : Program} {l : Launch} {e : Env} {R : Room} {s : State} {m : MethodId} {args : Array Value} {below : List Frame} {meth : Method} {c : Code} {D : va_G} {cy : Nat → ClassId} {T0 tB tE : Nat} {A : Nat → Prop} {a : Nat → Nat} {rw : Nat → Option Nat} (hrw : ∀ i, i < 6 → rw i = some (a (12 + 2 * i))) {post : Int64 → KS → Prop} {k52 : KS → Nat → Int32 → Int64 → Prop} (b : Bz p R s m args meth c D cy T0 tB tE A 10 cX9_packed RX9 (some .long) "packed" 1 22 0 0) (hk52 : ∀ (S : KS) (x0 : Nat) (x1 : Int32) (x3 : Int64), k52 S x0 x1 x3 → Z p l e R s m args below meth c D A 10 (MQ below (QL D (U := KS) post (kw cy a rw) A) args s 0 0 A) 0 0 (kw cy a rw S) [(0, .ref (a (2 + 2 * x0))), (1, .int x1), (3, .long x3)] 52 []) : ∀ (n : Nat) (S : KS) (x0 : Nat) (x1 : Int32) (x2 : Int32) (x3 : Int64) (x5 : Int32), lpn (w_X9_packed_F12 cy tE post k52) (fun _ _ _ _ _ _ => False) n S x0 x1 x2 x3 x5 → Z p l e R s m args below meth c D A 10 (MQ below (QL D (U := KS) post (kw cy a rw) A) args s 0 0 A) 0 0 (kw cy a rw S) [(0, .ref (a (2 + 2 * x0))), (1, .int x1), (2, .int x2), (3, .long x3), (5, .int x5)] 12 [] := by
  intro n
  induction n with
  | zero => intro _ _ _ _ _ _ h; exact h.elim
  | succ n ih => intro S x0 x1 x2 x3 x5 h; exact z_X9_packed_F12 hrw b hk52 ih S x0 x1 x2 x3 x5 h

def w_X9_packed_B167 (cy : Nat → ClassId) (tE : Nat) (post : Int64 → KS → Prop) (k89 : KS → Nat → Int32 → Int64 → Int32 → Int32 → Int32 → Prop) (k173 : KS → Nat → Int32 → Int64 → Int32 → Prop) (S : KS) (x0 : Nat) (x1 : Int32) (x3 : Int64) (x5 : Int32) (x6 : Int32) (x7 : Int32) : Prop :=
  k89 S x0 x1 x3 x5 x6 (x7 + 1)

set_option maxHeartbeats 200000 in
set_option maxRecDepth 100000 in
theorem z_X9_packed_B167 {p : Program} {l : Launch} {e : Env} {R : Room} {s : State} {m : MethodId} {args : Array Value} {below : List Frame} {meth : Method} {c : Code} {D : va_G} {cy : Nat → ClassId} {T0 tB tE : Nat} {A : Nat → Prop} {a : Nat → Nat} {rw : Nat → Option Nat} (hrw : ∀ i, i < 6 → rw i = some (a (12 + 2 * i))) {post : Int64 → KS → Prop} {k89 : KS → Nat → Int32 → Int64 → Int32 → Int32 → Int32 → Prop} {k173 : KS → Nat → Int32 → Int64 → Int32 → Prop} (b : Bz p R s m args meth c D cy T0 tB tE A 10 cX9_packed RX9 (some .long) "packed" 1 22 0 0) (hk89 : ∀ (S : KS) (x0 : Nat) (x1 : Int32) (x3 : Int64) (x5 : Int32) (x6 : Int32) (x7 : Int32), k89 S x0 x1 x3 x5 x6 x7 → Z p l e R s m args below meth c D A 10 (MQ below (QL D (U := KS) post (kw cy a rw) A) args s 0 0 A) 0 0 (kw cy a rw S) [(0, .ref (a (2 + 2 * x0))), (1, .int x1), (3, .long x3), (5, .int x5), (6, .int x6), (7, .int x7)] 89 []) (hk173 : ∀ (S : KS) (x0 : Nat) (x1 : Int32) (x3 : Int64) (x5 : Int32), k173 S x0 x1 x3 x5 → Z p l e R s m args below meth c D A 10 (MQ below (QL D (U := KS) post (kw cy a rw) A) args s 0 0 A) 0 0 (kw cy a rw S) [(0, .ref (a (2 + 2 * x0))), (1, .int x1), (3, .long x3), (5, .int x5)] 173 []) (S : KS) (x0 : Nat) (x1 : Int32) (x3 : Int64) (x5 : Int32) (x6 : Int32) (x7 : Int32) (h : w_X9_packed_B167 cy tE post k89 k173 S x0 x1 x3 x5 x6 x7) : Z p l e R s m args below meth c D A 10 (MQ below (QL D (U := KS) post (kw cy a rw) A) args s 0 0 A) 0 0 (kw cy a rw S) [(0, .ref (a (2 + 2 * x0))), (1, .int x1), (3, .long x3), (5, .int x5), (6, .int x6), (7, .int x7)] 167 [] := by
  unfold w_X9_packed_B167 at h
  refine z_iinc (k9 := 5) (v := (x7 + 1)) (lv' := [(7, .int (x7 + 1)), (0, .ref (a (2 + 2 * x0))), (1, .int x1), (3, .long x3), (5, .int x5), (6, .int x6)]) b dX9_packed_167 rfl rfl (by decide) rfl ?_
  refine z_goto (tgt := 89) b dX9_packed_170 (by decide) ?_
  refine z_lv0 (lv' := [(0, .ref (a (2 + 2 * x0))), (1, .int x1), (3, .long x3), (5, .int x5), (6, .int x6), (7, .int (x7 + 1))]) [1, 2, 3, 4, 5, 0] rfl ?_
  exact hk89 _ _ _ _ _ _ _ h

def w_X9_packed_F89 (cy : Nat → ClassId) (tE : Nat) (post : Int64 → KS → Prop) (k173 : KS → Nat → Int32 → Int64 → Int32 → Prop) (k89 : KS → Nat → Int32 → Int64 → Int32 → Int32 → Int32 → Prop) (S : KS) (x0 : Nat) (x1 : Int32) (x3 : Int64) (x5 : Int32) (x6 : Int32) (x7 : Int32) : Prop :=
  ((3 ≤ x7.toInt → k173 S x0 x1 x3 x5) ∧ (x7.toInt < 3 → ((x7.toInt = x5.toInt → w_X9_packed_B167 cy tE post k89 k173 S x0 x1 x3 x5 x6 x7) ∧ (x7.toInt ≠ x5.toInt → (x0 < 5) ∧ (x0 < 5) ∧ (0 ≤ ((10 : Int32) + (((3 : Int32) * x5) + x7)).toInt ∧ ((10 : Int32) + (((3 : Int32) * x5) + x7)).toInt < 51) ∧ (x0 < 5) ∧ (x0 < 5) ∧ (0 ≤ ((20 : Int32) + (((3 : Int32) * x5) + x7)).toInt ∧ ((20 : Int32) + (((3 : Int32) * x5) + x7)).toInt < 51) ∧ (x0 < 5) ∧ (x0 < 5) ∧ (0 ≤ ((30 : Int32) + (((3 : Int32) * x5) + x7)).toInt ∧ ((30 : Int32) + (((3 : Int32) * x5) + x7)).toInt < 51) ∧ w_X11_become cy tE S x1 x7 (fun r28 S29 => w_X9_pairShift cy tE S29 x6 r28 (fun r30 S31 => w_X9_packed_B167 cy tE post k89 k173 S31 x0 x1 (x3 ||| ((((((ar S.1 (1 + x0)) ((10 : Int32) + (((3 : Int32) * x5) + x7)).toNatClampNeg) ||| (((ar S.1 (1 + x0)) ((20 : Int32) + (((3 : Int32) * x5) + x7)).toNatClampNeg) <<< ((3 : Int32) &&& 31))) ||| (((ar S.1 (1 + x0)) ((30 : Int32) + (((3 : Int32) * x5) + x7)).toNatClampNeg) <<< ((4 : Int32) &&& 31))) : Int32).toInt64 <<< ((r30 : Int32).toInt64 &&& 63))) x5 x6 x7))))))

set_option maxHeartbeats 200000 in
set_option maxRecDepth 100000 in
theorem z_X9_packed_F89 {p : Program} {l : Launch} {e : Env} {R : Room} {s : State} {m : MethodId} {args : Array Value} {below : List Frame} {meth : Method} {c : Code} {D : va_G} {cy : Nat → ClassId} {T0 tB tE : Nat} {A : Nat → Prop} {a : Nat → Nat} {rw : Nat → Option Nat} (hrw : ∀ i, i < 6 → rw i = some (a (12 + 2 * i))) {post : Int64 → KS → Prop} {k173 : KS → Nat → Int32 → Int64 → Int32 → Prop} {k89 : KS → Nat → Int32 → Int64 → Int32 → Int32 → Int32 → Prop} (b : Bz p R s m args meth c D cy T0 tB tE A 10 cX9_packed RX9 (some .long) "packed" 1 22 0 0) (hk173 : ∀ (S : KS) (x0 : Nat) (x1 : Int32) (x3 : Int64) (x5 : Int32), k173 S x0 x1 x3 x5 → Z p l e R s m args below meth c D A 10 (MQ below (QL D (U := KS) post (kw cy a rw) A) args s 0 0 A) 0 0 (kw cy a rw S) [(0, .ref (a (2 + 2 * x0))), (1, .int x1), (3, .long x3), (5, .int x5)] 173 []) (hk89 : ∀ (S : KS) (x0 : Nat) (x1 : Int32) (x3 : Int64) (x5 : Int32) (x6 : Int32) (x7 : Int32), k89 S x0 x1 x3 x5 x6 x7 → Z p l e R s m args below meth c D A 10 (MQ below (QL D (U := KS) post (kw cy a rw) A) args s 0 0 A) 0 0 (kw cy a rw S) [(0, .ref (a (2 + 2 * x0))), (1, .int x1), (3, .long x3), (5, .int x5), (6, .int x6), (7, .int x7)] 89 []) (S : KS) (x0 : Nat) (x1 : Int32) (x3 : Int64) (x5 : Int32) (x6 : Int32) (x7 : Int32) (h : w_X9_packed_F89 cy tE post k173 k89 S x0 x1 x3 x5 x6 x7) : Z p l e R s m args below meth c D A 10 (MQ below (QL D (U := KS) post (kw cy a rw) A) args s 0 0 A) 0 0 (kw cy a rw S) [(0, .ref (a (2 + 2 * x0))), (1, .int x1), (3, .long x3), (5, .int x5), (6, .int x6), (7, .int x7)] 89 [] := by
  unfold w_X9_packed_F89 at h
  refine z_iload b dX9_packed_89 rfl ?_
  refine z_iconst (v := 3) b dX9_packed_91 (by decide) ?_
  refine y_icmp_ge (tgt := 173) (xl := x7.toInt) (yl := 3) b rfl (by decide) dX9_packed_92 (by decide) (fun c1 => ?_) (fun c1 => ?_)
  · replace h := h.1 c1
    refine z_lv0 (lv' := [(0, .ref (a (2 + 2 * x0))), (1, .int x1), (3, .long x3), (5, .int x5)]) [0, 1, 2, 3] rfl ?_
    exact hk173 _ _ _ _ _ h
  · replace h := h.2 c1
    refine z_iload b dX9_packed_95 rfl ?_
    refine z_iload b dX9_packed_97 rfl ?_
    refine y_icmp_eq (tgt := 167) (xl := x7.toInt) (yl := x5.toInt) b rfl rfl dX9_packed_99 (by decide) (fun c1 => ?_) (fun c1 => ?_)
    · replace h := h.1 c1
      exact z_X9_packed_B167 hrw b hk89 hk173 _ _ _ _ _ _ _ h
    · replace h := h.2 c1
      refine z_iconst (v := 3) b dX9_packed_102 (by decide) ?_
      refine z_iload b dX9_packed_103 rfl ?_
      refine z_imul b dX9_packed_105 rfl ?_
      refine z_iload b dX9_packed_106 rfl ?_
      refine z_iadd b dX9_packed_108 rfl ?_
      refine z_istore (lv' := [(8, .int (((3 : Int32) * x5) + x7)), (0, .ref (a (2 + 2 * x0))), (1, .int x1), (3, .long x3), (5, .int x5), (6, .int x6), (7, .int x7)]) b dX9_packed_109 (by decide) rfl ?_
      refine z_aload_n b dX9_packed_111 rfl rfl ?_
      obtain ⟨g19, h⟩ := h
      refine z_get (q0 := 2 + 2 * x0) (k9 := 0) (v := .ref (a (3 + 2 * x0))) b (kw_so cy a rw S g19) rfl in_X9 (by decide) wf_X9_11 rfl dX9_packed_112 ?_
      refine z_bipush (v := 10) b dX9_packed_115 (by decide) ?_
      refine z_iload b dX9_packed_117 rfl ?_
      refine z_iadd b dX9_packed_119 rfl ?_
      obtain ⟨g20, h⟩ := h
      obtain ⟨g21, h⟩ := h
      refine y_iald (q0 := 3 + 2 * x0) (j := ((10 : Int32) + (((3 : Int32) * x5) + x7)).toNatClampNeg) (v := ((ar S.1 (1 + x0)) ((10 : Int32) + (((3 : Int32) * x5) + x7)).toNatClampNeg)) b (kw_sr cy a rw S g20) (zx_r g21.1 g21.2) rfl dX9_packed_120 ?_
      refine z_aload_n b dX9_packed_121 rfl rfl ?_
      obtain ⟨g22, h⟩ := h
      refine z_get (q0 := 2 + 2 * x0) (k9 := 0) (v := .ref (a (3 + 2 * x0))) b (kw_so cy a rw S g22) rfl in_X9 (by decide) wf_X9_11 rfl dX9_packed_122 ?_
      refine z_bipush (v := 20) b dX9_packed_125 (by decide) ?_
      refine z_iload b dX9_packed_127 rfl ?_
      refine z_iadd b dX9_packed_129 rfl ?_
      obtain ⟨g23, h⟩ := h
      obtain ⟨g24, h⟩ := h
      refine y_iald (q0 := 3 + 2 * x0) (j := ((20 : Int32) + (((3 : Int32) * x5) + x7)).toNatClampNeg) (v := ((ar S.1 (1 + x0)) ((20 : Int32) + (((3 : Int32) * x5) + x7)).toNatClampNeg)) b (kw_sr cy a rw S g23) (zx_r g24.1 g24.2) rfl dX9_packed_130 ?_
      refine z_iconst (v := 3) b dX9_packed_131 (by decide) ?_
      refine z_ishl b dX9_packed_132 rfl ?_
      refine z_ior b dX9_packed_133 rfl ?_
      refine z_aload_n b dX9_packed_134 rfl rfl ?_
      obtain ⟨g25, h⟩ := h
      refine z_get (q0 := 2 + 2 * x0) (k9 := 0) (v := .ref (a (3 + 2 * x0))) b (kw_so cy a rw S g25) rfl in_X9 (by decide) wf_X9_11 rfl dX9_packed_135 ?_
      refine z_bipush (v := 30) b dX9_packed_138 (by decide) ?_
      refine z_iload b dX9_packed_140 rfl ?_
      refine z_iadd b dX9_packed_142 rfl ?_
      obtain ⟨g26, h⟩ := h
      obtain ⟨g27, h⟩ := h
      refine y_iald (q0 := 3 + 2 * x0) (j := ((30 : Int32) + (((3 : Int32) * x5) + x7)).toNatClampNeg) (v := ((ar S.1 (1 + x0)) ((30 : Int32) + (((3 : Int32) * x5) + x7)).toNatClampNeg)) b (kw_sr cy a rw S g26) (zx_r g27.1 g27.2) rfl dX9_packed_143 ?_
      refine z_iconst (v := 4) b dX9_packed_144 (by decide) ?_
      refine z_ishl b dX9_packed_145 rfl ?_
      refine z_ior b dX9_packed_146 rfl ?_
      refine z_istore (lv' := [(9, .int ((((ar S.1 (1 + x0)) ((10 : Int32) + (((3 : Int32) * x5) + x7)).toNatClampNeg) ||| (((ar S.1 (1 + x0)) ((20 : Int32) + (((3 : Int32) * x5) + x7)).toNatClampNeg) <<< ((3 : Int32) &&& 31))) ||| (((ar S.1 (1 + x0)) ((30 : Int32) + (((3 : Int32) * x5) + x7)).toNatClampNeg) <<< ((4 : Int32) &&& 31)))), (8, .int (((3 : Int32) * x5) + x7)), (0, .ref (a (2 + 2 * x0))), (1, .int x1), (3, .long x3), (5, .int x5), (6, .int x6), (7, .int x7)]) b dX9_packed_147 (by decide) rfl ?_
      refine z_lload_n b dX9_packed_149 rfl rfl ?_
      refine z_iload b dX9_packed_150 rfl ?_
      refine z_i2l b dX9_packed_152 rfl ?_
      refine z_iload b dX9_packed_153 rfl ?_
      refine z_iload_n b dX9_packed_155 rfl rfl ?_
      refine z_iload b dX9_packed_156 rfl ?_
      refine z_calli b (z_runSN (As := [.int x1, .int x7]) (st := [.int x6, .long (((((ar S.1 (1 + x0)) ((10 : Int32) + (((3 : Int32) * x5) + x7)).toNatClampNeg) ||| (((ar S.1 (1 + x0)) ((20 : Int32) + (((3 : Int32) * x5) + x7)).toNatClampNeg) <<< ((3 : Int32) &&& 31))) ||| (((ar S.1 (1 + x0)) ((30 : Int32) + (((3 : Int32) * x5) + x7)).toNatClampNeg) <<< ((4 : Int32) &&& 31))) : Int32).toInt64, .long x3]) b (k_X11_become hrw S x1 x7 _ h) cf_X11_become (nw_X9_45) ws_X11_become dX9_packed_158 rfl (Nat.le_of_ble_eq_true rfl) ⟨by decide, by decide, Nat.le_of_ble_eq_true rfl, Nat.le_of_ble_eq_true rfl⟩) (fun r28 S29 h => ?_)
      refine z_calli b (z_runS (As := [.int x6, .int r28]) (st := [.long (((((ar S.1 (1 + x0)) ((10 : Int32) + (((3 : Int32) * x5) + x7)).toNatClampNeg) ||| (((ar S.1 (1 + x0)) ((20 : Int32) + (((3 : Int32) * x5) + x7)).toNatClampNeg) <<< ((3 : Int32) &&& 31))) ||| (((ar S.1 (1 + x0)) ((30 : Int32) + (((3 : Int32) * x5) + x7)).toNatClampNeg) <<< ((4 : Int32) &&& 31))) : Int32).toInt64, .long x3]) b (k_X9_pairShift hrw S29 x6 r28 _ h) cf_X9_pairShift wm_X9_55 ws_X9_pairShift dX9_packed_161 rfl (Nat.le_of_ble_eq_true rfl) ⟨by decide, by decide, Nat.le_of_ble_eq_true rfl, Nat.le_of_ble_eq_true rfl⟩) (fun r30 S31 h => ?_)
      refine z_lshl b dX9_packed_164 rfl ?_
      refine z_lor b dX9_packed_165 rfl ?_
      refine z_lstore_n (lv' := [(3, .long (x3 ||| ((((((ar S.1 (1 + x0)) ((10 : Int32) + (((3 : Int32) * x5) + x7)).toNatClampNeg) ||| (((ar S.1 (1 + x0)) ((20 : Int32) + (((3 : Int32) * x5) + x7)).toNatClampNeg) <<< ((3 : Int32) &&& 31))) ||| (((ar S.1 (1 + x0)) ((30 : Int32) + (((3 : Int32) * x5) + x7)).toNatClampNeg) <<< ((4 : Int32) &&& 31))) : Int32).toInt64 <<< ((r30 : Int32).toInt64 &&& 63)))), (9, .int ((((ar S.1 (1 + x0)) ((10 : Int32) + (((3 : Int32) * x5) + x7)).toNatClampNeg) ||| (((ar S.1 (1 + x0)) ((20 : Int32) + (((3 : Int32) * x5) + x7)).toNatClampNeg) <<< ((3 : Int32) &&& 31))) ||| (((ar S.1 (1 + x0)) ((30 : Int32) + (((3 : Int32) * x5) + x7)).toNatClampNeg) <<< ((4 : Int32) &&& 31)))), (8, .int (((3 : Int32) * x5) + x7)), (0, .ref (a (2 + 2 * x0))), (1, .int x1), (5, .int x5), (6, .int x6), (7, .int x7)]) b dX9_packed_166 rfl (by decide) rfl ?_
      refine z_lv0 (lv' := [(0, .ref (a (2 + 2 * x0))), (1, .int x1), (3, .long (x3 ||| ((((((ar S.1 (1 + x0)) ((10 : Int32) + (((3 : Int32) * x5) + x7)).toNatClampNeg) ||| (((ar S.1 (1 + x0)) ((20 : Int32) + (((3 : Int32) * x5) + x7)).toNatClampNeg) <<< ((3 : Int32) &&& 31))) ||| (((ar S.1 (1 + x0)) ((30 : Int32) + (((3 : Int32) * x5) + x7)).toNatClampNeg) <<< ((4 : Int32) &&& 31))) : Int32).toInt64 <<< ((r30 : Int32).toInt64 &&& 63)))), (5, .int x5), (6, .int x6), (7, .int x7)]) [3, 4, 0, 5, 6, 7] rfl ?_
      exact z_X9_packed_B167 hrw b hk89 hk173 _ _ _ _ _ _ _ h

set_option maxHeartbeats 200000 in
set_option maxRecDepth 100000 in
theorem zl_X9_packed_L89 {p : Program} {l : Launch} {e : Env} {R : Room} {s : State} {m : MethodId} {args : Array Value} {below : List Frame} {meth : Method} {c : Code} {D : va_G} {cy : Nat → ClassId} {T0 tB tE : Nat} {A : Nat → Prop} {a : Nat → Nat} {rw : Nat → Option Nat} (hrw : ∀ i, i < 6 → rw i = some (a (12 + 2 * i))) {post : Int64 → KS → Prop} {k173 : KS → Nat → Int32 → Int64 → Int32 → Prop} (b : Bz p R s m args meth c D cy T0 tB tE A 10 cX9_packed RX9 (some .long) "packed" 1 22 0 0) (hk173 : ∀ (S : KS) (x0 : Nat) (x1 : Int32) (x3 : Int64) (x5 : Int32), k173 S x0 x1 x3 x5 → Z p l e R s m args below meth c D A 10 (MQ below (QL D (U := KS) post (kw cy a rw) A) args s 0 0 A) 0 0 (kw cy a rw S) [(0, .ref (a (2 + 2 * x0))), (1, .int x1), (3, .long x3), (5, .int x5)] 173 []) : ∀ (n : Nat) (S : KS) (x0 : Nat) (x1 : Int32) (x3 : Int64) (x5 : Int32) (x6 : Int32) (x7 : Int32), lpn (w_X9_packed_F89 cy tE post k173) (fun _ _ _ _ _ _ _ => False) n S x0 x1 x3 x5 x6 x7 → Z p l e R s m args below meth c D A 10 (MQ below (QL D (U := KS) post (kw cy a rw) A) args s 0 0 A) 0 0 (kw cy a rw S) [(0, .ref (a (2 + 2 * x0))), (1, .int x1), (3, .long x3), (5, .int x5), (6, .int x6), (7, .int x7)] 89 [] := by
  intro n
  induction n with
  | zero => intro _ _ _ _ _ _ _ h; exact h.elim
  | succ n ih => intro S x0 x1 x3 x5 x6 x7 h; exact z_X9_packed_F89 hrw b hk173 ih S x0 x1 x3 x5 x6 x7 h

def w_X9_packed_B173 (cy : Nat → ClassId) (tE : Nat) (post : Int64 → KS → Prop) (k55 : KS → Nat → Int32 → Int64 → Int32 → Prop) (k179 : KS → Int64 → Prop) (S : KS) (x0 : Nat) (x1 : Int32) (x3 : Int64) (x5 : Int32) : Prop :=
  k55 S x0 x1 x3 (x5 + 1)

set_option maxHeartbeats 200000 in
set_option maxRecDepth 100000 in
theorem z_X9_packed_B173 {p : Program} {l : Launch} {e : Env} {R : Room} {s : State} {m : MethodId} {args : Array Value} {below : List Frame} {meth : Method} {c : Code} {D : va_G} {cy : Nat → ClassId} {T0 tB tE : Nat} {A : Nat → Prop} {a : Nat → Nat} {rw : Nat → Option Nat} (hrw : ∀ i, i < 6 → rw i = some (a (12 + 2 * i))) {post : Int64 → KS → Prop} {k55 : KS → Nat → Int32 → Int64 → Int32 → Prop} {k179 : KS → Int64 → Prop} (b : Bz p R s m args meth c D cy T0 tB tE A 10 cX9_packed RX9 (some .long) "packed" 1 22 0 0) (hk55 : ∀ (S : KS) (x0 : Nat) (x1 : Int32) (x3 : Int64) (x5 : Int32), k55 S x0 x1 x3 x5 → Z p l e R s m args below meth c D A 10 (MQ below (QL D (U := KS) post (kw cy a rw) A) args s 0 0 A) 0 0 (kw cy a rw S) [(0, .ref (a (2 + 2 * x0))), (1, .int x1), (3, .long x3), (5, .int x5)] 55 []) (hk179 : ∀ (S : KS) (x3 : Int64), k179 S x3 → Z p l e R s m args below meth c D A 10 (MQ below (QL D (U := KS) post (kw cy a rw) A) args s 0 0 A) 0 0 (kw cy a rw S) [(3, .long x3)] 179 []) (S : KS) (x0 : Nat) (x1 : Int32) (x3 : Int64) (x5 : Int32) (h : w_X9_packed_B173 cy tE post k55 k179 S x0 x1 x3 x5) : Z p l e R s m args below meth c D A 10 (MQ below (QL D (U := KS) post (kw cy a rw) A) args s 0 0 A) 0 0 (kw cy a rw S) [(0, .ref (a (2 + 2 * x0))), (1, .int x1), (3, .long x3), (5, .int x5)] 173 [] := by
  unfold w_X9_packed_B173 at h
  refine z_iinc (k9 := 3) (v := (x5 + 1)) (lv' := [(5, .int (x5 + 1)), (0, .ref (a (2 + 2 * x0))), (1, .int x1), (3, .long x3)]) b dX9_packed_173 rfl rfl (by decide) rfl ?_
  refine z_goto (tgt := 55) b dX9_packed_176 (by decide) ?_
  refine z_lv0 (lv' := [(0, .ref (a (2 + 2 * x0))), (1, .int x1), (3, .long x3), (5, .int (x5 + 1))]) [1, 2, 3, 0] rfl ?_
  exact hk55 _ _ _ _ _ h

def w_X9_packed_F55 (cy : Nat → ClassId) (tE : Nat) (post : Int64 → KS → Prop) (k179 : KS → Int64 → Prop) (k55 : KS → Nat → Int32 → Int64 → Int32 → Prop) (S : KS) (x0 : Nat) (x1 : Int32) (x3 : Int64) (x5 : Int32) : Prop :=
  ((3 ≤ x5.toInt → k179 S x3) ∧ (x5.toInt < 3 → w_X11_become cy tE S x1 x5 (fun r12 S13 => (x0 < 5) ∧ (x0 < 5) ∧ (0 ≤ x5.toInt ∧ x5.toInt < 51) ∧ w_X9_coinShift cy tE S13 r12 (fun r17 S18 => ∃ n, lpn (w_X9_packed_F89 cy tE post (w_X9_packed_B173 cy tE post k55 k179)) (fun _ _ _ _ _ _ _ => False) n S18 x0 x1 (x3 ||| ((((ar S13.1 (1 + x0)) x5.toNatClampNeg) : Int32).toInt64 <<< ((r17 : Int32).toInt64 &&& 63))) x5 r12 0))))

set_option maxHeartbeats 200000 in
set_option maxRecDepth 100000 in
theorem z_X9_packed_F55 {p : Program} {l : Launch} {e : Env} {R : Room} {s : State} {m : MethodId} {args : Array Value} {below : List Frame} {meth : Method} {c : Code} {D : va_G} {cy : Nat → ClassId} {T0 tB tE : Nat} {A : Nat → Prop} {a : Nat → Nat} {rw : Nat → Option Nat} (hrw : ∀ i, i < 6 → rw i = some (a (12 + 2 * i))) {post : Int64 → KS → Prop} {k179 : KS → Int64 → Prop} {k55 : KS → Nat → Int32 → Int64 → Int32 → Prop} (b : Bz p R s m args meth c D cy T0 tB tE A 10 cX9_packed RX9 (some .long) "packed" 1 22 0 0) (hk179 : ∀ (S : KS) (x3 : Int64), k179 S x3 → Z p l e R s m args below meth c D A 10 (MQ below (QL D (U := KS) post (kw cy a rw) A) args s 0 0 A) 0 0 (kw cy a rw S) [(3, .long x3)] 179 []) (hk55 : ∀ (S : KS) (x0 : Nat) (x1 : Int32) (x3 : Int64) (x5 : Int32), k55 S x0 x1 x3 x5 → Z p l e R s m args below meth c D A 10 (MQ below (QL D (U := KS) post (kw cy a rw) A) args s 0 0 A) 0 0 (kw cy a rw S) [(0, .ref (a (2 + 2 * x0))), (1, .int x1), (3, .long x3), (5, .int x5)] 55 []) (S : KS) (x0 : Nat) (x1 : Int32) (x3 : Int64) (x5 : Int32) (h : w_X9_packed_F55 cy tE post k179 k55 S x0 x1 x3 x5) : Z p l e R s m args below meth c D A 10 (MQ below (QL D (U := KS) post (kw cy a rw) A) args s 0 0 A) 0 0 (kw cy a rw S) [(0, .ref (a (2 + 2 * x0))), (1, .int x1), (3, .long x3), (5, .int x5)] 55 [] := by
  unfold w_X9_packed_F55 at h
  refine z_iload b dX9_packed_55 rfl ?_
  refine z_iconst (v := 3) b dX9_packed_57 (by decide) ?_
  refine y_icmp_ge (tgt := 179) (xl := x5.toInt) (yl := 3) b rfl (by decide) dX9_packed_58 (by decide) (fun c1 => ?_) (fun c1 => ?_)
  · replace h := h.1 c1
    refine z_lv0 (lv' := [(3, .long x3)]) [2] rfl ?_
    exact hk179 _ _ h
  · replace h := h.2 c1
    refine z_iload_n b dX9_packed_61 rfl rfl ?_
    refine z_iload b dX9_packed_62 rfl ?_
    refine z_calli b (z_runSN (As := [.int x1, .int x5]) (st := []) b (k_X11_become hrw S x1 x5 _ h) cf_X11_become (nw_X9_45) ws_X11_become dX9_packed_64 rfl (Nat.le_of_ble_eq_true rfl) ⟨by decide, by decide, Nat.le_of_ble_eq_true rfl, Nat.le_of_ble_eq_true rfl⟩) (fun r12 S13 h => ?_)
    refine z_istore (lv' := [(6, .int r12), (0, .ref (a (2 + 2 * x0))), (1, .int x1), (3, .long x3), (5, .int x5)]) b dX9_packed_67 (by decide) rfl ?_
    refine z_lload_n b dX9_packed_69 rfl rfl ?_
    refine z_aload_n b dX9_packed_70 rfl rfl ?_
    obtain ⟨g14, h⟩ := h
    refine z_get (q0 := 2 + 2 * x0) (k9 := 0) (v := .ref (a (3 + 2 * x0))) b (kw_so cy a rw S13 g14) rfl in_X9 (by decide) wf_X9_11 rfl dX9_packed_71 ?_
    refine z_iload b dX9_packed_74 rfl ?_
    obtain ⟨g15, h⟩ := h
    obtain ⟨g16, h⟩ := h
    refine y_iald (q0 := 3 + 2 * x0) (j := x5.toNatClampNeg) (v := ((ar S13.1 (1 + x0)) x5.toNatClampNeg)) b (kw_sr cy a rw S13 g15) (zx_r g16.1 g16.2) rfl dX9_packed_76 ?_
    refine z_i2l b dX9_packed_77 rfl ?_
    refine z_iload b dX9_packed_78 rfl ?_
    refine z_calli b (z_runS (As := [.int r12]) (st := [.long (((ar S13.1 (1 + x0)) x5.toNatClampNeg) : Int32).toInt64, .long x3]) b (k_X9_coinShift hrw S13 r12 _ h) cf_X9_coinShift wm_X9_52 ws_X9_coinShift dX9_packed_80 rfl (Nat.le_of_ble_eq_true rfl) ⟨by decide, by decide, Nat.le_of_ble_eq_true rfl, Nat.le_of_ble_eq_true rfl⟩) (fun r17 S18 h => ?_)
    refine z_lshl b dX9_packed_83 rfl ?_
    refine z_lor b dX9_packed_84 rfl ?_
    refine z_lstore_n (lv' := [(3, .long (x3 ||| ((((ar S13.1 (1 + x0)) x5.toNatClampNeg) : Int32).toInt64 <<< ((r17 : Int32).toInt64 &&& 63)))), (6, .int r12), (0, .ref (a (2 + 2 * x0))), (1, .int x1), (5, .int x5)]) b dX9_packed_85 rfl (by decide) rfl ?_
    refine z_iconst (v := 0) b dX9_packed_86 (by decide) ?_
    refine z_istore (lv' := [(7, .int 0), (3, .long (x3 ||| ((((ar S13.1 (1 + x0)) x5.toNatClampNeg) : Int32).toInt64 <<< ((r17 : Int32).toInt64 &&& 63)))), (6, .int r12), (0, .ref (a (2 + 2 * x0))), (1, .int x1), (5, .int x5)]) b dX9_packed_87 (by decide) rfl ?_
    refine z_lv0 (lv' := [(0, .ref (a (2 + 2 * x0))), (1, .int x1), (3, .long (x3 ||| ((((ar S13.1 (1 + x0)) x5.toNatClampNeg) : Int32).toInt64 <<< ((r17 : Int32).toInt64 &&& 63)))), (5, .int x5), (6, .int r12), (7, .int 0)]) [3, 4, 1, 5, 2, 0] rfl ?_
    obtain ⟨n, h⟩ := h
    exact zl_X9_packed_L89 hrw b (fun S x0 x1 x3 x5 h => z_X9_packed_B173 hrw b hk55 hk179 _ _ _ _ _ h) n _ _ _ _ _ _ _ h

set_option maxHeartbeats 200000 in
set_option maxRecDepth 100000 in
theorem zl_X9_packed_L55 {p : Program} {l : Launch} {e : Env} {R : Room} {s : State} {m : MethodId} {args : Array Value} {below : List Frame} {meth : Method} {c : Code} {D : va_G} {cy : Nat → ClassId} {T0 tB tE : Nat} {A : Nat → Prop} {a : Nat → Nat} {rw : Nat → Option Nat} (hrw : ∀ i, i < 6 → rw i = some (a (12 + 2 * i))) {post : Int64 → KS → Prop} {k179 : KS → Int64 → Prop} (b : Bz p R s m args meth c D cy T0 tB tE A 10 cX9_packed RX9 (some .long) "packed" 1 22 0 0) (hk179 : ∀ (S : KS) (x3 : Int64), k179 S x3 → Z p l e R s m args below meth c D A 10 (MQ below (QL D (U := KS) post (kw cy a rw) A) args s 0 0 A) 0 0 (kw cy a rw S) [(3, .long x3)] 179 []) : ∀ (n : Nat) (S : KS) (x0 : Nat) (x1 : Int32) (x3 : Int64) (x5 : Int32), lpn (w_X9_packed_F55 cy tE post k179) (fun _ _ _ _ _ => False) n S x0 x1 x3 x5 → Z p l e R s m args below meth c D A 10 (MQ below (QL D (U := KS) post (kw cy a rw) A) args s 0 0 A) 0 0 (kw cy a rw S) [(0, .ref (a (2 + 2 * x0))), (1, .int x1), (3, .long x3), (5, .int x5)] 55 [] := by
  intro n
  induction n with
  | zero => intro _ _ _ _ _ h; exact h.elim
  | succ n ih => intro S x0 x1 x3 x5 h; exact z_X9_packed_F55 hrw b hk179 ih S x0 x1 x3 x5 h

def w_X9_packed_B179 (cy : Nat → ClassId) (tE : Nat) (post : Int64 → KS → Prop) (S : KS) (x3 : Int64) : Prop :=
  post x3 S

set_option maxHeartbeats 200000 in
set_option maxRecDepth 100000 in
theorem z_X9_packed_B179 {p : Program} {l : Launch} {e : Env} {R : Room} {s : State} {m : MethodId} {args : Array Value} {below : List Frame} {meth : Method} {c : Code} {D : va_G} {cy : Nat → ClassId} {T0 tB tE : Nat} {A : Nat → Prop} {a : Nat → Nat} {rw : Nat → Option Nat} (hrw : ∀ i, i < 6 → rw i = some (a (12 + 2 * i))) {post : Int64 → KS → Prop} (b : Bz p R s m args meth c D cy T0 tB tE A 10 cX9_packed RX9 (some .long) "packed" 1 22 0 0) (S : KS) (x3 : Int64) (h : w_X9_packed_B179 cy tE post S x3) : Z p l e R s m args below meth c D A 10 (MQ below (QL D (U := KS) post (kw cy a rw) A) args s 0 0 A) 0 0 (kw cy a rw S) [(3, .long x3)] 179 [] := by
  unfold w_X9_packed_B179 at h
  refine z_lload_n b dX9_packed_179 rfl rfl ?_
  exact z_lret (u := S) b rfl dX9_packed_180 h rfl (by decide) (by decide)

def w_X9_packed_B52 (cy : Nat → ClassId) (tE : Nat) (post : Int64 → KS → Prop) (S : KS) (x0 : Nat) (x1 : Int32) (x3 : Int64) : Prop :=
  ∃ n, lpn (w_X9_packed_F55 cy tE post (w_X9_packed_B179 cy tE post)) (fun _ _ _ _ _ => False) n S x0 x1 x3 0

set_option maxHeartbeats 200000 in
set_option maxRecDepth 100000 in
theorem z_X9_packed_B52 {p : Program} {l : Launch} {e : Env} {R : Room} {s : State} {m : MethodId} {args : Array Value} {below : List Frame} {meth : Method} {c : Code} {D : va_G} {cy : Nat → ClassId} {T0 tB tE : Nat} {A : Nat → Prop} {a : Nat → Nat} {rw : Nat → Option Nat} (hrw : ∀ i, i < 6 → rw i = some (a (12 + 2 * i))) {post : Int64 → KS → Prop} (b : Bz p R s m args meth c D cy T0 tB tE A 10 cX9_packed RX9 (some .long) "packed" 1 22 0 0) (S : KS) (x0 : Nat) (x1 : Int32) (x3 : Int64) (h : w_X9_packed_B52 cy tE post S x0 x1 x3) : Z p l e R s m args below meth c D A 10 (MQ below (QL D (U := KS) post (kw cy a rw) A) args s 0 0 A) 0 0 (kw cy a rw S) [(0, .ref (a (2 + 2 * x0))), (1, .int x1), (3, .long x3)] 52 [] := by
  unfold w_X9_packed_B52 at h
  refine z_iconst (v := 0) b dX9_packed_52 (by decide) ?_
  refine z_istore (lv' := [(5, .int 0), (0, .ref (a (2 + 2 * x0))), (1, .int x1), (3, .long x3)]) b dX9_packed_53 (by decide) rfl ?_
  refine z_lv0 (lv' := [(0, .ref (a (2 + 2 * x0))), (1, .int x1), (3, .long x3), (5, .int 0)]) [1, 2, 3, 0] rfl ?_
  obtain ⟨n, h⟩ := h
  exact zl_X9_packed_L55 hrw b (fun S x3 h => z_X9_packed_B179 hrw b _ _ h) n _ _ _ _ _ h

def w_X9_packed (cy : Nat → ClassId) (tE : Nat) (S : KS) (p9 : Nat) (p0 : Int32) (p1 : Int32) (post : Int64 → KS → Prop) : Prop :=
  (p9 < 5) ∧ (p9 < 5) ∧ ∃ n, lpn (w_X9_packed_F12 cy tE post (w_X9_packed_B52 cy tE post)) (fun _ _ _ _ _ _ => False) n S p9 p0 p1 ((((ar S.1 (1 + p9)) 50) : Int32).toInt64) 0

set_option maxHeartbeats 200000 in
set_option maxRecDepth 100000 in
theorem k_X9_packed {l : Launch} {D : va_G} {cy : Nat → ClassId} {T0 tB tE : Nat} {a : Nat → Nat} {rw : Nat → Option Nat} (hrw : ∀ i, i < 6 → rw i = some (a (12 + 2 * i))) (S : KS) (p9 : Nat) (p0 : Int32) (p1 : Int32) (post : Int64 → KS → Prop) (h : w_X9_packed cy tE S p9 p0 p1 post) : Ct l D cy T0 tB tE yX9_packed cX9_packed 10 (some .long) 1 22 0 0 (kw cy a rw S) [.ref (a (2 + 2 * p9)), .int p0, .int p1] (QL D (U := KS) post (kw cy a rw)) := by
  refine Ct.ofZ RX9 "packed" [(0, .ref (a (2 + 2 * p9))), (1, .int p0), (2, .int p1)] rfl rfl rfl rfl (Nat.le_of_ble_eq_true rfl) ?_
  intro p e R s m args below meth c A b
  unfold w_X9_packed at h
  refine z_aload_n b dX9_packed_0 rfl rfl ?_
  obtain ⟨g1, h⟩ := h
  refine z_get (q0 := 2 + 2 * p9) (k9 := 0) (v := .ref (a (3 + 2 * p9))) b (kw_so cy a rw S g1) rfl in_X9 (by decide) wf_X9_11 rfl dX9_packed_1 ?_
  refine z_bipush (v := 50) b dX9_packed_4 (by decide) ?_
  obtain ⟨g2, h⟩ := h
  refine y_iald (q0 := 3 + 2 * p9) (j := 50) (v := ((ar S.1 (1 + p9)) 50)) b (kw_sr cy a rw S g2) (by decide) rfl dX9_packed_6 ?_
  refine z_i2l b dX9_packed_7 rfl ?_
  refine z_lstore_n (lv' := [(3, .long (((ar S.1 (1 + p9)) 50) : Int32).toInt64), (0, .ref (a (2 + 2 * p9))), (1, .int p0), (2, .int p1)]) b dX9_packed_8 rfl (by decide) rfl ?_
  refine z_iconst (v := 0) b dX9_packed_9 (by decide) ?_
  refine z_istore (lv' := [(5, .int 0), (3, .long (((ar S.1 (1 + p9)) 50) : Int32).toInt64), (0, .ref (a (2 + 2 * p9))), (1, .int p0), (2, .int p1)]) b dX9_packed_10 (by decide) rfl ?_
  refine z_lv0 (lv' := [(0, .ref (a (2 + 2 * p9))), (1, .int p0), (2, .int p1), (3, .long (((ar S.1 (1 + p9)) 50) : Int32).toInt64), (5, .int 0)]) [2, 3, 4, 1, 0] rfl ?_
  obtain ⟨n, h⟩ := h
  exact zl_X9_packed_L12 hrw b (fun S x0 x1 x3 h => z_X9_packed_B52 hrw b _ _ _ _ h) n _ _ _ _ _ _ h

def w_X8_slotOf_B67 (cy : Nat → ClassId) (tE : Nat) (post : Int32 → KS → Prop) (k13 : KS → Int64 → Int32 → Int32 → Prop) (k76 : KS → Prop) (S : KS) (x5 : Int32) : Prop :=
  post x5 S

set_option maxHeartbeats 200000 in
set_option maxRecDepth 100000 in
theorem z_X8_slotOf_B67 {p : Program} {l : Launch} {e : Env} {R : Room} {s : State} {m : MethodId} {args : Array Value} {below : List Frame} {meth : Method} {c : Code} {D : va_G} {cy : Nat → ClassId} {T0 tB tE : Nat} {A : Nat → Prop} {a : Nat → Nat} {rw : Nat → Option Nat} (hrw : ∀ i, i < 6 → rw i = some (a (12 + 2 * i))) {post : Int32 → KS → Prop} {k13 : KS → Int64 → Int32 → Int32 → Prop} {k76 : KS → Prop} (b : Bz p R s m args meth c D cy T0 tB tE A 7 cX8_slotOf RX8 (some .int) "slotOf" 0 0 0 0) (hk13 : ∀ (S : KS) (x1 : Int64) (x3 : Int32) (x4 : Int32), k13 S x1 x3 x4 → Z p l e R s m args below meth c D A 7 (MQ below (QI D (U := KS) post (kw cy a rw) A) args s 0 0 A) 0 0 (kw cy a rw S) [(0, .ref (a 38)), (1, .long x1), (3, .int x3), (4, .int x4)] 13 []) (hk76 : ∀ (S : KS), k76 S → Z p l e R s m args below meth c D A 7 (MQ below (QI D (U := KS) post (kw cy a rw) A) args s 0 0 A) 0 0 (kw cy a rw S) [] 76 []) (S : KS) (x5 : Int32) (h : w_X8_slotOf_B67 cy tE post k13 k76 S x5) : Z p l e R s m args below meth c D A 7 (MQ below (QI D (U := KS) post (kw cy a rw) A) args s 0 0 A) 0 0 (kw cy a rw S) [(5, .int x5)] 67 [] := by
  unfold w_X8_slotOf_B67 at h
  refine z_iload b dX8_slotOf_67 rfl ?_
  exact z_iret (u := S) b rfl dX8_slotOf_69 h rfl (by decide) (by decide)

def w_X8_slotOf_F13 (cy : Nat → ClassId) (tE : Nat) (post : Int32 → KS → Prop) (k76 : KS → Prop) (k13 : KS → Int64 → Int32 → Int32 → Prop) (S : KS) (x1 : Int64) (x3 : Int32) (x4 : Int32) : Prop :=
  ((1024 ≤ x4.toInt → k76 S) ∧ (x4.toInt < 1024 → (0 ≤ ((x3 + x4) &&& 1023).toInt ∧ ((x3 + x4) &&& 1023).toInt < 1024) ∧ (((((ar S.1 20) ((x3 + x4) &&& 1023).toNatClampNeg) - 1).toInt < 0 → w_X8_slotOf_B67 cy tE post k13 k76 S ((x3 + x4) &&& 1023)) ∧ (0 ≤ (((ar S.1 20) ((x3 + x4) &&& 1023).toNatClampNeg) - 1).toInt → ((400 ≤ (((ar S.1 20) ((x3 + x4) &&& 1023).toNatClampNeg) - 1).toInt → w_X8_slotOf_B67 cy tE post k13 k76 S ((x3 + x4) &&& 1023)) ∧ ((((ar S.1 20) ((x3 + x4) &&& 1023).toNatClampNeg) - 1).toInt < 400 → (0 ≤ (((ar S.1 20) ((x3 + x4) &&& 1023).toNatClampNeg) - 1).toInt ∧ (((ar S.1 20) ((x3 + x4) &&& 1023).toNatClampNeg) - 1).toInt < 400) ∧ (((lg_cmp ((al S.1 2) (((ar S.1 20) ((x3 + x4) &&& 1023).toNatClampNeg) - 1).toNatClampNeg) x1).toInt ≠ 0 → k13 S x1 x3 (x4 + 1)) ∧ ((lg_cmp ((al S.1 2) (((ar S.1 20) ((x3 + x4) &&& 1023).toNatClampNeg) - 1).toNatClampNeg) x1).toInt = 0 → w_X8_slotOf_B67 cy tE post k13 k76 S ((x3 + x4) &&& 1023)))))))))

set_option maxHeartbeats 200000 in
set_option maxRecDepth 100000 in
theorem z_X8_slotOf_F13 {p : Program} {l : Launch} {e : Env} {R : Room} {s : State} {m : MethodId} {args : Array Value} {below : List Frame} {meth : Method} {c : Code} {D : va_G} {cy : Nat → ClassId} {T0 tB tE : Nat} {A : Nat → Prop} {a : Nat → Nat} {rw : Nat → Option Nat} (hrw : ∀ i, i < 6 → rw i = some (a (12 + 2 * i))) {post : Int32 → KS → Prop} {k76 : KS → Prop} {k13 : KS → Int64 → Int32 → Int32 → Prop} (b : Bz p R s m args meth c D cy T0 tB tE A 7 cX8_slotOf RX8 (some .int) "slotOf" 0 0 0 0) (hk76 : ∀ (S : KS), k76 S → Z p l e R s m args below meth c D A 7 (MQ below (QI D (U := KS) post (kw cy a rw) A) args s 0 0 A) 0 0 (kw cy a rw S) [] 76 []) (hk13 : ∀ (S : KS) (x1 : Int64) (x3 : Int32) (x4 : Int32), k13 S x1 x3 x4 → Z p l e R s m args below meth c D A 7 (MQ below (QI D (U := KS) post (kw cy a rw) A) args s 0 0 A) 0 0 (kw cy a rw S) [(0, .ref (a 38)), (1, .long x1), (3, .int x3), (4, .int x4)] 13 []) (S : KS) (x1 : Int64) (x3 : Int32) (x4 : Int32) (h : w_X8_slotOf_F13 cy tE post k76 k13 S x1 x3 x4) : Z p l e R s m args below meth c D A 7 (MQ below (QI D (U := KS) post (kw cy a rw) A) args s 0 0 A) 0 0 (kw cy a rw S) [(0, .ref (a 38)), (1, .long x1), (3, .int x3), (4, .int x4)] 13 [] := by
  unfold w_X8_slotOf_F13 at h
  refine z_iload b dX8_slotOf_13 rfl ?_
  refine z_sipush (v := 1024) b dX8_slotOf_15 (by decide) ?_
  refine y_icmp_ge (tgt := 76) (xl := x4.toInt) (yl := 1024) b rfl (by decide) dX8_slotOf_18 (by decide) (fun c1 => ?_) (fun c1 => ?_)
  · replace h := h.1 c1
    refine z_lv0 (lv' := []) [] rfl ?_
    exact hk76 _ h
  · replace h := h.2 c1
    refine z_iload_n b dX8_slotOf_21 rfl rfl ?_
    refine z_iload b dX8_slotOf_22 rfl ?_
    refine z_iadd b dX8_slotOf_24 rfl ?_
    refine z_sipush (v := 1023) b dX8_slotOf_25 (by decide) ?_
    refine z_iand b dX8_slotOf_28 rfl ?_
    refine z_istore (lv' := [(5, .int ((x3 + x4) &&& 1023)), (0, .ref (a 38)), (1, .long x1), (3, .int x3), (4, .int x4)]) b dX8_slotOf_29 (by decide) rfl ?_
    refine z_aload_n b dX8_slotOf_31 rfl rfl ?_
    refine z_get (q0 := 38) (k9 := 7) (v := .ref (a 43)) b (kw_38 cy a rw S) rfl in_X8 (by decide) wf_X8_32 rfl dX8_slotOf_32 ?_
    refine z_iload b dX8_slotOf_35 rfl ?_
    obtain ⟨g1, h⟩ := h
    refine y_iald (q0 := 43) (j := ((x3 + x4) &&& 1023).toNatClampNeg) (v := ((ar S.1 20) ((x3 + x4) &&& 1023).toNatClampNeg)) b (kw_43 cy a rw S) (zx_r g1.1 g1.2) rfl dX8_slotOf_37 ?_
    refine z_iconst (v := 1) b dX8_slotOf_38 (by decide) ?_
    refine z_isub b dX8_slotOf_39 rfl ?_
    refine z_istore (lv' := [(6, .int (((ar S.1 20) ((x3 + x4) &&& 1023).toNatClampNeg) - 1)), (5, .int ((x3 + x4) &&& 1023)), (0, .ref (a 38)), (1, .long x1), (3, .int x3), (4, .int x4)]) b dX8_slotOf_40 (by decide) rfl ?_
    refine z_iload b dX8_slotOf_42 rfl ?_
    refine y_if_lt (tgt := 67) (xl := (((ar S.1 20) ((x3 + x4) &&& 1023).toNatClampNeg) - 1).toInt) b rfl dX8_slotOf_44 (by decide) (fun c1 => ?_) (fun c1 => ?_)
    · replace h := h.1 c1
      refine z_lv0 (lv' := [(5, .int ((x3 + x4) &&& 1023))]) [1] rfl ?_
      exact z_X8_slotOf_B67 hrw b hk13 hk76 _ _ h
    · replace h := h.2 c1
      refine z_iload b dX8_slotOf_47 rfl ?_
      refine z_sipush (v := 400) b dX8_slotOf_49 (by decide) ?_
      refine y_icmp_ge (tgt := 67) (xl := (((ar S.1 20) ((x3 + x4) &&& 1023).toNatClampNeg) - 1).toInt) (yl := 400) b rfl (by decide) dX8_slotOf_52 (by decide) (fun c1 => ?_) (fun c1 => ?_)
      · replace h := h.1 c1
        refine z_lv0 (lv' := [(5, .int ((x3 + x4) &&& 1023))]) [1] rfl ?_
        exact z_X8_slotOf_B67 hrw b hk13 hk76 _ _ h
      · replace h := h.2 c1
        refine z_aload_n b dX8_slotOf_55 rfl rfl ?_
        refine z_get (q0 := 38) (k9 := 3) (v := .ref (a 39)) b (kw_38 cy a rw S) rfl in_X8 (by decide) wf_X8_18 rfl dX8_slotOf_56 ?_
        refine z_iload b dX8_slotOf_59 rfl ?_
        obtain ⟨g2, h⟩ := h
        refine y_lald (q0 := 39) (j := (((ar S.1 20) ((x3 + x4) &&& 1023).toNatClampNeg) - 1).toNatClampNeg) (v := ((al S.1 2) (((ar S.1 20) ((x3 + x4) &&& 1023).toNatClampNeg) - 1).toNatClampNeg)) b (kw_39 cy a rw S) (zx_r g2.1 g2.2) rfl dX8_slotOf_61 ?_
        refine z_lload_n b dX8_slotOf_62 rfl rfl ?_
        refine z_lcmp b dX8_slotOf_63 rfl ?_
        refine y_if_ne (tgt := 70) (xl := (lg_cmp ((al S.1 2) (((ar S.1 20) ((x3 + x4) &&& 1023).toNatClampNeg) - 1).toNatClampNeg) x1).toInt) b rfl dX8_slotOf_64 (by decide) (fun c1 => ?_) (fun c1 => ?_)
        · replace h := h.1 c1
          refine z_iinc (k9 := 5) (v := (x4 + 1)) (lv' := [(4, .int (x4 + 1)), (6, .int (((ar S.1 20) ((x3 + x4) &&& 1023).toNatClampNeg) - 1)), (5, .int ((x3 + x4) &&& 1023)), (0, .ref (a 38)), (1, .long x1), (3, .int x3)]) b dX8_slotOf_70 rfl rfl (by decide) rfl ?_
          refine z_goto (tgt := 13) b dX8_slotOf_73 (by decide) ?_
          refine z_lv0 (lv' := [(0, .ref (a 38)), (1, .long x1), (3, .int x3), (4, .int (x4 + 1))]) [3, 4, 5, 0] rfl ?_
          exact hk13 _ _ _ _ h
        · replace h := h.2 c1
          refine z_lv0 (lv' := [(5, .int ((x3 + x4) &&& 1023))]) [1] rfl ?_
          exact z_X8_slotOf_B67 hrw b hk13 hk76 _ _ h

set_option maxHeartbeats 200000 in
set_option maxRecDepth 100000 in
theorem zl_X8_slotOf_L13 {p : Program} {l : Launch} {e : Env} {R : Room} {s : State} {m : MethodId} {args : Array Value} {below : List Frame} {meth : Method} {c : Code} {D : va_G} {cy : Nat → ClassId} {T0 tB tE : Nat} {A : Nat → Prop} {a : Nat → Nat} {rw : Nat → Option Nat} (hrw : ∀ i, i < 6 → rw i = some (a (12 + 2 * i))) {post : Int32 → KS → Prop} {k76 : KS → Prop} (b : Bz p R s m args meth c D cy T0 tB tE A 7 cX8_slotOf RX8 (some .int) "slotOf" 0 0 0 0) (hk76 : ∀ (S : KS), k76 S → Z p l e R s m args below meth c D A 7 (MQ below (QI D (U := KS) post (kw cy a rw) A) args s 0 0 A) 0 0 (kw cy a rw S) [] 76 []) : ∀ (n : Nat) (S : KS) (x1 : Int64) (x3 : Int32) (x4 : Int32), lpn (w_X8_slotOf_F13 cy tE post k76) (fun _ _ _ _ => False) n S x1 x3 x4 → Z p l e R s m args below meth c D A 7 (MQ below (QI D (U := KS) post (kw cy a rw) A) args s 0 0 A) 0 0 (kw cy a rw S) [(0, .ref (a 38)), (1, .long x1), (3, .int x3), (4, .int x4)] 13 [] := by
  intro n
  induction n with
  | zero => intro _ _ _ _ h; exact h.elim
  | succ n ih => intro S x1 x3 x4 h; exact z_X8_slotOf_F13 hrw b hk76 ih S x1 x3 x4 h

def w_X8_slotOf_B76 (cy : Nat → ClassId) (tE : Nat) (post : Int32 → KS → Prop) (S : KS)  : Prop :=
  post 0 S

set_option maxHeartbeats 200000 in
set_option maxRecDepth 100000 in
theorem z_X8_slotOf_B76 {p : Program} {l : Launch} {e : Env} {R : Room} {s : State} {m : MethodId} {args : Array Value} {below : List Frame} {meth : Method} {c : Code} {D : va_G} {cy : Nat → ClassId} {T0 tB tE : Nat} {A : Nat → Prop} {a : Nat → Nat} {rw : Nat → Option Nat} (hrw : ∀ i, i < 6 → rw i = some (a (12 + 2 * i))) {post : Int32 → KS → Prop} (b : Bz p R s m args meth c D cy T0 tB tE A 7 cX8_slotOf RX8 (some .int) "slotOf" 0 0 0 0) (S : KS)  (h : w_X8_slotOf_B76 cy tE post S ) : Z p l e R s m args below meth c D A 7 (MQ below (QI D (U := KS) post (kw cy a rw) A) args s 0 0 A) 0 0 (kw cy a rw S) [] 76 [] := by
  unfold w_X8_slotOf_B76 at h
  refine z_iconst (v := 0) b dX8_slotOf_76 (by decide) ?_
  exact z_iret (u := S) b rfl dX8_slotOf_77 h rfl (by decide) (by decide)

def w_X8_slotOf (cy : Nat → ClassId) (tE : Nat) (S : KS) (p0 : Int64) (post : Int32 → KS → Prop) : Prop :=
  ∃ n, lpn (w_X8_slotOf_F13 cy tE post (w_X8_slotOf_B76 cy tE post)) (fun _ _ _ _ => False) n S p0 (((((p0 * (-7046029254386353131))).toUInt64 >>> ((54 : Int32).toInt64.toUInt64 &&& Int64.toUInt64 63)).toInt64 : Int64).toInt32) 0

set_option maxHeartbeats 200000 in
set_option maxRecDepth 100000 in
theorem k_X8_slotOf {l : Launch} {D : va_G} {cy : Nat → ClassId} {T0 tB tE : Nat} {a : Nat → Nat} {rw : Nat → Option Nat} (hrw : ∀ i, i < 6 → rw i = some (a (12 + 2 * i))) (S : KS) (p0 : Int64) (post : Int32 → KS → Prop) (h : w_X8_slotOf cy tE S p0 post) : Ct l D cy T0 tB tE yX8_slotOf cX8_slotOf 7 (some .int) 0 0 0 0 (kw cy a rw S) [.ref (a 38), .long p0] (QI D (U := KS) post (kw cy a rw)) := by
  refine Ct.ofZ RX8 "slotOf" [(0, .ref (a 38)), (1, .long p0)] rfl rfl rfl rfl (Nat.le_of_ble_eq_true rfl) ?_
  intro p e R s m args below meth c A b
  unfold w_X8_slotOf at h
  refine z_lload_n b dX8_slotOf_0 rfl rfl ?_
  refine z_ldc2 b wl_X8_120 dX8_slotOf_1 ?_
  refine z_lmul b dX8_slotOf_4 rfl ?_
  refine z_bipush (v := 54) b dX8_slotOf_5 (by decide) ?_
  refine z_lushr b dX8_slotOf_7 rfl ?_
  refine z_l2i b dX8_slotOf_8 rfl ?_
  refine z_istore_n (lv' := [(3, .int ((((p0 * (-7046029254386353131))).toUInt64 >>> ((54 : Int32).toInt64.toUInt64 &&& Int64.toUInt64 63)).toInt64 : Int64).toInt32), (0, .ref (a 38)), (1, .long p0)]) b dX8_slotOf_9 rfl (by decide) rfl ?_
  refine z_iconst (v := 0) b dX8_slotOf_10 (by decide) ?_
  refine z_istore (lv' := [(4, .int 0), (3, .int ((((p0 * (-7046029254386353131))).toUInt64 >>> ((54 : Int32).toInt64.toUInt64 &&& Int64.toUInt64 63)).toInt64 : Int64).toInt32), (0, .ref (a 38)), (1, .long p0)]) b dX8_slotOf_11 (by decide) rfl ?_
  refine z_lv0 (lv' := [(0, .ref (a 38)), (1, .long p0), (3, .int ((((p0 * (-7046029254386353131))).toUInt64 >>> ((54 : Int32).toInt64.toUInt64 &&& Int64.toUInt64 63)).toInt64 : Int64).toInt32), (4, .int 0)]) [2, 3, 1, 0] rfl ?_
  obtain ⟨n, h⟩ := h
  exact zl_X8_slotOf_L13 hrw b (fun S h => z_X8_slotOf_B76 hrw b _ h) n _ _ _ _ h

def w_X8_meet_B89 (cy : Nat → ClassId) (tE : Nat) (post : KS → Prop) (S : KS) (x5 : Int32) (y0 : Int32) (y1 : Int32) : Prop :=
  (0 ≤ y1.toInt ∧ y1.toInt < 400) ∧ (0 ≤ x5.toInt ∧ x5.toInt < 1024) ∧ post (ksu (ksi (ksu S 17 (y1.toNatClampNeg) y0) 33 ((fi S.1 33) + 1)) 20 (x5.toNatClampNeg) ((fi S.1 33) + 1))

set_option maxHeartbeats 200000 in
set_option maxRecDepth 100000 in
theorem z_X8_meet_B89 {p : Program} {l : Launch} {e : Env} {R : Room} {s : State} {m : MethodId} {args : Array Value} {below : List Frame} {meth : Method} {c : Code} {D : va_G} {cy : Nat → ClassId} {T0 tB tE : Nat} {A : Nat → Prop} {a : Nat → Nat} {rw : Nat → Option Nat} (hrw : ∀ i, i < 6 → rw i = some (a (12 + 2 * i))) {post : KS → Prop} (b : Bz p R s m args meth c D cy T0 tB tE A 6 cX8_meet RX8 none "meet" 1 26 0 0) (S : KS) (x5 : Int32) (y0 : Int32) (y1 : Int32) (h : w_X8_meet_B89 cy tE post S x5 y0 y1) : Z p l e R s m args below meth c D A 6 (MQ below (QV D (U := KS) post (kw cy a rw) A) args s 0 0 A) 0 0 (kw cy a rw S) [(0, .ref (a 38)), (5, .int x5)] 89 [.int y0, .int y1, .ref (a 40)] := by
  unfold w_X8_meet_B89 at h
  obtain ⟨g9, h⟩ := h
  refine y_iast (q0 := 40) (j := y1.toNatClampNeg) b (kw_40 cy a rw S) (zx_r g9.1 g9.2) dX8_meet_89 (kwa_40 cy a rw S (y1.toNatClampNeg) y0) ?_
  refine z_aload_n b dX8_meet_90 rfl rfl ?_
  refine z_dup b dX8_meet_91 rfl ?_
  refine z_get (q0 := 38) (k9 := 17) (v := .int (fi S.1 33)) b (kw_38 cy a rw (ksu S 17 (y1.toNatClampNeg) y0)) rfl in_X8 (by decide) wf_X8_64 rfl dX8_meet_92 ?_
  refine z_iconst (v := 1) b dX8_meet_95 (by decide) ?_
  refine z_iadd b dX8_meet_96 rfl ?_
  refine z_put (q0 := 38) (k9 := 17) tyX8 b (kw_38 cy a rw (ksu S 17 (y1.toNatClampNeg) y0)) rfl in_X8 tyX8_ok nmX8 (by decide) wf_X8_64 rfl rfl rfl rfl (Nat.le_of_ble_eq_true rfl) dX8_meet_97 (kwp_38_17 cy a rw (ksu S 17 (y1.toNatClampNeg) y0) ((fi S.1 33) + 1)) ?_
  refine z_aload_n b dX8_meet_100 rfl rfl ?_
  refine z_get (q0 := 38) (k9 := 7) (v := .ref (a 43)) b (kw_38 cy a rw (ksi (ksu S 17 (y1.toNatClampNeg) y0) 33 ((fi S.1 33) + 1))) rfl in_X8 (by decide) wf_X8_32 rfl dX8_meet_101 ?_
  refine z_iload b dX8_meet_104 rfl ?_
  refine z_aload_n b dX8_meet_106 rfl rfl ?_
  refine z_get (q0 := 38) (k9 := 17) (v := .int ((fi S.1 33) + 1)) b (kw_38 cy a rw (ksi (ksu S 17 (y1.toNatClampNeg) y0) 33 ((fi S.1 33) + 1))) rfl in_X8 (by decide) wf_X8_64 rfl dX8_meet_107 ?_
  obtain ⟨g10, h⟩ := h
  refine y_iast (q0 := 43) (j := x5.toNatClampNeg) b (kw_43 cy a rw (ksi (ksu S 17 (y1.toNatClampNeg) y0) 33 ((fi S.1 33) + 1))) (zx_r g10.1 g10.2) dX8_meet_110 (kwa_43 cy a rw (ksi (ksu S 17 (y1.toNatClampNeg) y0) 33 ((fi S.1 33) + 1)) (x5.toNatClampNeg) ((fi S.1 33) + 1)) ?_
  exact z_vret (u := (ksu (ksi (ksu S 17 (y1.toNatClampNeg) y0) 33 ((fi S.1 33) + 1)) 20 (x5.toNatClampNeg) ((fi S.1 33) + 1))) b rfl dX8_meet_111 h rfl (by decide) (by decide)

def w_X8_meet (cy : Nat → ClassId) (tE : Nat) (S : KS) (p0 : Int64) (p1 : Int32) (p2 : Int32) (post : KS → Prop) : Prop :=
  w_X8_slotOf cy tE S p0 (fun r1 S2 => (0 ≤ r1.toInt ∧ r1.toInt < 1024) ∧ ((((ar S2.1 20) r1.toNatClampNeg).toInt = 0 → (((fi S2.1 33).toInt < 400 → (0 ≤ (fi S2.1 33).toInt ∧ (fi S2.1 33).toInt < 400) ∧ (0 ≤ (fi S2.1 33).toInt ∧ (fi S2.1 33).toInt < 400) ∧ (0 ≤ (fi S2.1 33).toInt ∧ (fi S2.1 33).toInt < 400) ∧ ((p1.toInt ≠ (-1) → w_X8_acts cy tE (ksu (ksu (ksv S2 2 ((fi S2.1 33).toNatClampNeg) p0) 18 ((fi S2.1 33).toNatClampNeg) p1) 19 ((fi S2.1 33).toNatClampNeg) p2) p1 (fun r7 S8 => w_X8_meet_B89 cy tE post S8 r1 (r7 + 1) (fi S2.1 33))) ∧ (p1.toInt = (-1) → w_X8_meet_B89 cy tE post (ksu (ksu (ksv S2 2 ((fi S2.1 33).toNatClampNeg) p0) 18 ((fi S2.1 33).toNatClampNeg) p1) 19 ((fi S2.1 33).toNatClampNeg) p2) r1 0 (fi S2.1 33)))) ∧ (400 ≤ (fi S2.1 33).toInt → post (ksi S2 34 1)))) ∧ (((ar S2.1 20) r1.toNatClampNeg).toInt ≠ 0 → post S2)))

set_option maxHeartbeats 200000 in
set_option maxRecDepth 100000 in
theorem k_X8_meet {l : Launch} {D : va_G} {cy : Nat → ClassId} {T0 tB tE : Nat} {a : Nat → Nat} {rw : Nat → Option Nat} (hrw : ∀ i, i < 6 → rw i = some (a (12 + 2 * i))) (S : KS) (p0 : Int64) (p1 : Int32) (p2 : Int32) (post : KS → Prop) (h : w_X8_meet cy tE S p0 p1 p2 post) : Ct l D cy T0 tB tE yX8_meet cX8_meet 6 none 1 26 0 0 (kw cy a rw S) [.ref (a 38), .long p0, .int p1, .int p2] (QV D (U := KS) post (kw cy a rw)) := by
  refine Ct.ofZ RX8 "meet" [(0, .ref (a 38)), (1, .long p0), (3, .int p1), (4, .int p2)] rfl rfl rfl rfl (Nat.le_of_ble_eq_true rfl) ?_
  intro p e R s m args below meth c A b
  unfold w_X8_meet at h
  refine z_aload_n b dX8_meet_0 rfl rfl ?_
  refine z_lload_n b dX8_meet_1 rfl rfl ?_
  refine z_calli b (z_runV (q0 := 38) (As := [.long p0]) (st := []) b (k_X8_slotOf hrw S p0 _ h) cf_X8_slotOf (kw_38 cy a rw S) rfl wm_X8_113 wi_X8_slotOf ws_X8_slotOf dX8_meet_2 rfl (Nat.le_of_ble_eq_true rfl) ⟨by decide, by decide, Nat.le_of_ble_eq_true rfl, Nat.le_of_ble_eq_true rfl⟩) (fun r1 S2 h => ?_)
  refine z_istore (lv' := [(5, .int r1), (0, .ref (a 38)), (1, .long p0), (3, .int p1), (4, .int p2)]) b dX8_meet_5 (by decide) rfl ?_
  refine z_aload_n b dX8_meet_7 rfl rfl ?_
  refine z_get (q0 := 38) (k9 := 7) (v := .ref (a 43)) b (kw_38 cy a rw S2) rfl in_X8 (by decide) wf_X8_32 rfl dX8_meet_8 ?_
  refine z_iload b dX8_meet_11 rfl ?_
  obtain ⟨g3, h⟩ := h
  refine y_iald (q0 := 43) (j := r1.toNatClampNeg) (v := ((ar S2.1 20) r1.toNatClampNeg)) b (kw_43 cy a rw S2) (zx_r g3.1 g3.2) rfl dX8_meet_13 ?_
  refine y_if_eq (tgt := 18) (xl := ((ar S2.1 20) r1.toNatClampNeg).toInt) b rfl dX8_meet_14 (by decide) (fun c1 => ?_) (fun c1 => ?_)
  · replace h := h.1 c1
    refine z_aload_n b dX8_meet_18 rfl rfl ?_
    refine z_get (q0 := 38) (k9 := 17) (v := .int (fi S2.1 33)) b (kw_38 cy a rw S2) rfl in_X8 (by decide) wf_X8_64 rfl dX8_meet_19 ?_
    refine z_sipush (v := 400) b dX8_meet_22 (by decide) ?_
    refine y_icmp_lt (tgt := 34) (xl := (fi S2.1 33).toInt) (yl := 400) b rfl (by decide) dX8_meet_25 (by decide) (fun c1 => ?_) (fun c1 => ?_)
    · replace h := h.1 c1
      refine z_aload_n b dX8_meet_34 rfl rfl ?_
      refine z_get (q0 := 38) (k9 := 3) (v := .ref (a 39)) b (kw_38 cy a rw S2) rfl in_X8 (by decide) wf_X8_18 rfl dX8_meet_35 ?_
      refine z_aload_n b dX8_meet_38 rfl rfl ?_
      refine z_get (q0 := 38) (k9 := 17) (v := .int (fi S2.1 33)) b (kw_38 cy a rw S2) rfl in_X8 (by decide) wf_X8_64 rfl dX8_meet_39 ?_
      refine z_lload_n b dX8_meet_42 rfl rfl ?_
      obtain ⟨g4, h⟩ := h
      refine y_last (q0 := 39) (j := (fi S2.1 33).toNatClampNeg) b (kw_39 cy a rw S2) (zx_r g4.1 g4.2) dX8_meet_43 (kwa_39 cy a rw S2 ((fi S2.1 33).toNatClampNeg) p0) ?_
      refine z_aload_n b dX8_meet_44 rfl rfl ?_
      refine z_get (q0 := 38) (k9 := 5) (v := .ref (a 41)) b (kw_38 cy a rw (ksv S2 2 ((fi S2.1 33).toNatClampNeg) p0)) rfl in_X8 (by decide) wf_X8_26 rfl dX8_meet_45 ?_
      refine z_aload_n b dX8_meet_48 rfl rfl ?_
      refine z_get (q0 := 38) (k9 := 17) (v := .int (fi S2.1 33)) b (kw_38 cy a rw (ksv S2 2 ((fi S2.1 33).toNatClampNeg) p0)) rfl in_X8 (by decide) wf_X8_64 rfl dX8_meet_49 ?_
      refine z_iload_n b dX8_meet_52 rfl rfl ?_
      obtain ⟨g5, h⟩ := h
      refine y_iast (q0 := 41) (j := (fi S2.1 33).toNatClampNeg) b (kw_41 cy a rw (ksv S2 2 ((fi S2.1 33).toNatClampNeg) p0)) (zx_r g5.1 g5.2) dX8_meet_53 (kwa_41 cy a rw (ksv S2 2 ((fi S2.1 33).toNatClampNeg) p0) ((fi S2.1 33).toNatClampNeg) p1) ?_
      refine z_aload_n b dX8_meet_54 rfl rfl ?_
      refine z_get (q0 := 38) (k9 := 6) (v := .ref (a 42)) b (kw_38 cy a rw (ksu (ksv S2 2 ((fi S2.1 33).toNatClampNeg) p0) 18 ((fi S2.1 33).toNatClampNeg) p1)) rfl in_X8 (by decide) wf_X8_29 rfl dX8_meet_55 ?_
      refine z_aload_n b dX8_meet_58 rfl rfl ?_
      refine z_get (q0 := 38) (k9 := 17) (v := .int (fi S2.1 33)) b (kw_38 cy a rw (ksu (ksv S2 2 ((fi S2.1 33).toNatClampNeg) p0) 18 ((fi S2.1 33).toNatClampNeg) p1)) rfl in_X8 (by decide) wf_X8_64 rfl dX8_meet_59 ?_
      refine z_iload b dX8_meet_62 rfl ?_
      obtain ⟨g6, h⟩ := h
      refine y_iast (q0 := 42) (j := (fi S2.1 33).toNatClampNeg) b (kw_42 cy a rw (ksu (ksv S2 2 ((fi S2.1 33).toNatClampNeg) p0) 18 ((fi S2.1 33).toNatClampNeg) p1)) (zx_r g6.1 g6.2) dX8_meet_64 (kwa_42 cy a rw (ksu (ksv S2 2 ((fi S2.1 33).toNatClampNeg) p0) 18 ((fi S2.1 33).toNatClampNeg) p1) ((fi S2.1 33).toNatClampNeg) p2) ?_
      refine z_aload_n b dX8_meet_65 rfl rfl ?_
      refine z_get (q0 := 38) (k9 := 4) (v := .ref (a 40)) b (kw_38 cy a rw (ksu (ksu (ksv S2 2 ((fi S2.1 33).toNatClampNeg) p0) 18 ((fi S2.1 33).toNatClampNeg) p1) 19 ((fi S2.1 33).toNatClampNeg) p2)) rfl in_X8 (by decide) wf_X8_22 rfl dX8_meet_66 ?_
      refine z_aload_n b dX8_meet_69 rfl rfl ?_
      refine z_get (q0 := 38) (k9 := 17) (v := .int (fi S2.1 33)) b (kw_38 cy a rw (ksu (ksu (ksv S2 2 ((fi S2.1 33).toNatClampNeg) p0) 18 ((fi S2.1 33).toNatClampNeg) p1) 19 ((fi S2.1 33).toNatClampNeg) p2)) rfl in_X8 (by decide) wf_X8_64 rfl dX8_meet_70 ?_
      refine z_iload_n b dX8_meet_73 rfl rfl ?_
      refine z_iconst (v := (-1)) b dX8_meet_74 (by decide) ?_
      refine y_icmp_ne (tgt := 82) (xl := p1.toInt) (yl := (-1)) b rfl (by decide) dX8_meet_75 (by decide) (fun c1 => ?_) (fun c1 => ?_)
      · replace h := h.1 c1
        refine z_aload_n b dX8_meet_82 rfl rfl ?_
        refine z_iload_n b dX8_meet_83 rfl rfl ?_
        refine z_calli b (z_runV (q0 := 38) (As := [.int p1]) (st := [.int (fi S2.1 33), .ref (a 40)]) b (k_X8_acts hrw (ksu (ksu (ksv S2 2 ((fi S2.1 33).toNatClampNeg) p0) 18 ((fi S2.1 33).toNatClampNeg) p1) 19 ((fi S2.1 33).toNatClampNeg) p2) p1 _ h) cf_X8_acts (kw_38 cy a rw (ksu (ksu (ksv S2 2 ((fi S2.1 33).toNatClampNeg) p0) 18 ((fi S2.1 33).toNatClampNeg) p1) 19 ((fi S2.1 33).toNatClampNeg) p2)) rfl wm_X8_117 wi_X8_acts ws_X8_acts dX8_meet_84 rfl (Nat.le_of_ble_eq_true rfl) ⟨by decide, by decide, Nat.le_of_ble_eq_true rfl, Nat.le_of_ble_eq_true rfl⟩) (fun r7 S8 h => ?_)
        refine z_iconst (v := 1) b dX8_meet_87 (by decide) ?_
        refine z_iadd b dX8_meet_88 rfl ?_
        refine z_lv0 (lv' := [(0, .ref (a 38)), (5, .int r1)]) [1, 0] rfl ?_
        exact z_X8_meet_B89 hrw b _ _ _ _ h
      · replace h := h.2 c1
        refine z_iconst (v := 0) b dX8_meet_78 (by decide) ?_
        refine z_goto (tgt := 89) b dX8_meet_79 (by decide) ?_
        refine z_lv0 (lv' := [(0, .ref (a 38)), (5, .int r1)]) [1, 0] rfl ?_
        exact z_X8_meet_B89 hrw b _ _ _ _ h
    · replace h := h.2 c1
      refine z_aload_n b dX8_meet_28 rfl rfl ?_
      refine z_iconst (v := 1) b dX8_meet_29 (by decide) ?_
      refine z_put (q0 := 38) (k9 := 18) tyX8 b (kw_38 cy a rw S2) rfl in_X8 tyX8_ok nmX8 (by decide) wf_X8_67 rfl rfl rfl rfl (Nat.le_of_ble_eq_true rfl) dX8_meet_30 (kwp_38_18 cy a rw S2 1) ?_
      exact z_vret (u := (ksi S2 34 1)) b rfl dX8_meet_33 h rfl (by decide) (by decide)
  · replace h := h.2 c1
    exact z_vret (u := S2) b rfl dX8_meet_17 h rfl (by decide) (by decide)

def w_X8_grow_B34 (cy : Nat → ClassId) (tE : Nat) (post : Int32 → KS → Prop) (S : KS)  : Prop :=
  post 0 S

set_option maxHeartbeats 200000 in
set_option maxRecDepth 100000 in
theorem z_X8_grow_B34 {p : Program} {l : Launch} {e : Env} {R : Room} {s : State} {m : MethodId} {args : Array Value} {below : List Frame} {meth : Method} {c : Code} {D : va_G} {cy : Nat → ClassId} {T0 tB tE : Nat} {A : Nat → Prop} {a : Nat → Nat} {rw : Nat → Option Nat} (hrw : ∀ i, i < 6 → rw i = some (a (12 + 2 * i))) {post : Int32 → KS → Prop} (b : Bz p R s m args meth c D cy T0 tB tE A 2 cX8_grow RX8 (some .boolean) "grow" 4 101 0 0) (S : KS)  (h : w_X8_grow_B34 cy tE post S ) : Z p l e R s m args below meth c D A 2 (MQ below (QI D (U := KS) post (kw cy a rw) A) args s 0 0 A) 0 0 (kw cy a rw S) [] 34 [] := by
  unfold w_X8_grow_B34 at h
  refine z_iconst (v := 0) b dX8_grow_34 (by decide) ?_
  exact z_zret (u := S) b rfl (by decide) dX8_grow_35 h rfl (by decide) (by decide)

def w_X8_grow_B124 (cy : Nat → ClassId) (tE : Nat) (post : Int32 → KS → Prop) (k54 : KS → Int32 → Prop) (k130 : KS → Prop) (S : KS) (x1 : Int32) : Prop :=
  k54 S (x1 + 1)

set_option maxHeartbeats 200000 in
set_option maxRecDepth 100000 in
theorem z_X8_grow_B124 {p : Program} {l : Launch} {e : Env} {R : Room} {s : State} {m : MethodId} {args : Array Value} {below : List Frame} {meth : Method} {c : Code} {D : va_G} {cy : Nat → ClassId} {T0 tB tE : Nat} {A : Nat → Prop} {a : Nat → Nat} {rw : Nat → Option Nat} (hrw : ∀ i, i < 6 → rw i = some (a (12 + 2 * i))) {post : Int32 → KS → Prop} {k54 : KS → Int32 → Prop} {k130 : KS → Prop} (b : Bz p R s m args meth c D cy T0 tB tE A 2 cX8_grow RX8 (some .boolean) "grow" 4 101 0 0) (hk54 : ∀ (S : KS) (x1 : Int32), k54 S x1 → Z p l e R s m args below meth c D A 2 (MQ below (QI D (U := KS) post (kw cy a rw) A) args s 0 0 A) 0 0 (kw cy a rw S) [(0, .ref (a 38)), (1, .int x1)] 54 []) (hk130 : ∀ (S : KS), k130 S → Z p l e R s m args below meth c D A 2 (MQ below (QI D (U := KS) post (kw cy a rw) A) args s 0 0 A) 0 0 (kw cy a rw S) [(0, .ref (a 38))] 130 []) (S : KS) (x1 : Int32) (h : w_X8_grow_B124 cy tE post k54 k130 S x1) : Z p l e R s m args below meth c D A 2 (MQ below (QI D (U := KS) post (kw cy a rw) A) args s 0 0 A) 0 0 (kw cy a rw S) [(0, .ref (a 38)), (1, .int x1)] 124 [] := by
  unfold w_X8_grow_B124 at h
  refine z_iinc (k9 := 1) (v := (x1 + 1)) (lv' := [(1, .int (x1 + 1)), (0, .ref (a 38))]) b dX8_grow_124 rfl rfl (by decide) rfl ?_
  refine z_goto (tgt := 54) b dX8_grow_127 (by decide) ?_
  refine z_lv0 (lv' := [(0, .ref (a 38)), (1, .int (x1 + 1))]) [1, 0] rfl ?_
  exact hk54 _ _ h

def w_X8_grow_F54 (cy : Nat → ClassId) (tE : Nat) (post : Int32 → KS → Prop) (k130 : KS → Prop) (k54 : KS → Int32 → Prop) (S : KS) (x1 : Int32) : Prop :=
  (((fi S.1 26).toInt ≤ x1.toInt → k130 S) ∧ (x1.toInt < (fi S.1 26).toInt → (((fi S.1 34).toInt ≠ 0 → k130 S) ∧ ((fi S.1 34).toInt = 0 → (0 ≤ x1.toInt ∧ x1.toInt < 216) ∧ w_X2_why cy tE S 4 ((ar S.1 21) x1.toNatClampNeg) (fi S.1 27) (fi S.1 30) (fun r6 S7 => ((r6.toInt ≠ (-1) → w_X8_grow_B124 cy tE post k54 k130 S7 x1) ∧ (r6.toInt = (-1) → w_X9_packed cy tE S7 2 0 0 (fun r8 S9 => (0 ≤ x1.toInt ∧ x1.toInt < 216) ∧ w_X8_meet cy tE S9 r8 (fi S9.1 31) ((ar S9.1 21) x1.toNatClampNeg) (fun S12 => w_X8_grow_B124 cy tE post k54 k130 S12 x1)))))))))

set_option maxHeartbeats 200000 in
set_option maxRecDepth 100000 in
theorem z_X8_grow_F54 {p : Program} {l : Launch} {e : Env} {R : Room} {s : State} {m : MethodId} {args : Array Value} {below : List Frame} {meth : Method} {c : Code} {D : va_G} {cy : Nat → ClassId} {T0 tB tE : Nat} {A : Nat → Prop} {a : Nat → Nat} {rw : Nat → Option Nat} (hrw : ∀ i, i < 6 → rw i = some (a (12 + 2 * i))) {post : Int32 → KS → Prop} {k130 : KS → Prop} {k54 : KS → Int32 → Prop} (b : Bz p R s m args meth c D cy T0 tB tE A 2 cX8_grow RX8 (some .boolean) "grow" 4 101 0 0) (hk130 : ∀ (S : KS), k130 S → Z p l e R s m args below meth c D A 2 (MQ below (QI D (U := KS) post (kw cy a rw) A) args s 0 0 A) 0 0 (kw cy a rw S) [(0, .ref (a 38))] 130 []) (hk54 : ∀ (S : KS) (x1 : Int32), k54 S x1 → Z p l e R s m args below meth c D A 2 (MQ below (QI D (U := KS) post (kw cy a rw) A) args s 0 0 A) 0 0 (kw cy a rw S) [(0, .ref (a 38)), (1, .int x1)] 54 []) (S : KS) (x1 : Int32) (h : w_X8_grow_F54 cy tE post k130 k54 S x1) : Z p l e R s m args below meth c D A 2 (MQ below (QI D (U := KS) post (kw cy a rw) A) args s 0 0 A) 0 0 (kw cy a rw S) [(0, .ref (a 38)), (1, .int x1)] 54 [] := by
  unfold w_X8_grow_F54 at h
  refine z_iload_n b dX8_grow_54 rfl rfl ?_
  refine z_aload_n b dX8_grow_55 rfl rfl ?_
  refine z_get (q0 := 38) (k9 := 10) (v := .int (fi S.1 26)) b (kw_38 cy a rw S) rfl in_X8 (by decide) wf_X8_41 rfl dX8_grow_56 ?_
  refine y_icmp_ge (tgt := 130) (xl := x1.toInt) (yl := (fi S.1 26).toInt) b rfl rfl dX8_grow_59 (by decide) (fun c1 => ?_) (fun c1 => ?_)
  · replace h := h.1 c1
    refine z_lv0 (lv' := [(0, .ref (a 38))]) [0] rfl ?_
    exact hk130 _ h
  · replace h := h.2 c1
    refine z_aload_n b dX8_grow_62 rfl rfl ?_
    refine z_get (q0 := 38) (k9 := 18) (v := .int (fi S.1 34)) b (kw_38 cy a rw S) rfl in_X8 (by decide) wf_X8_67 rfl dX8_grow_63 ?_
    refine y_if_ne (tgt := 130) (xl := (fi S.1 34).toInt) b rfl dX8_grow_66 (by decide) (fun c1 => ?_) (fun c1 => ?_)
    · replace h := h.1 c1
      refine z_lv0 (lv' := [(0, .ref (a 38))]) [0] rfl ?_
      exact hk130 _ h
    · replace h := h.2 c1
      refine z_aload_n b dX8_grow_69 rfl rfl ?_
      refine z_get (q0 := 38) (k9 := 0) (v := .ref (a 35)) b (kw_38 cy a rw S) rfl in_X8 (by decide) wf_X8_70 rfl dX8_grow_70 ?_
      refine z_aload_n b dX8_grow_73 rfl rfl ?_
      refine z_get (q0 := 38) (k9 := 2) (v := .ref (a 10)) b (kw_38 cy a rw S) rfl in_X8 (by decide) wf_X8_12 rfl dX8_grow_74 ?_
      refine z_aload_n b dX8_grow_77 rfl rfl ?_
      refine z_get (q0 := 38) (k9 := 9) (v := .ref (a 45)) b (kw_38 cy a rw S) rfl in_X8 (by decide) wf_X8_38 rfl dX8_grow_78 ?_
      refine z_iload_n b dX8_grow_81 rfl rfl ?_
      obtain ⟨g5, h⟩ := h
      refine y_iald (q0 := 45) (j := x1.toNatClampNeg) (v := ((ar S.1 21) x1.toNatClampNeg)) b (kw_45 cy a rw S) (zx_r g5.1 g5.2) rfl dX8_grow_82 ?_
      refine z_aload_n b dX8_grow_83 rfl rfl ?_
      refine z_get (q0 := 38) (k9 := 11) (v := .int (fi S.1 27)) b (kw_38 cy a rw S) rfl in_X8 (by decide) wf_X8_45 rfl dX8_grow_84 ?_
      refine z_aload_n b dX8_grow_87 rfl rfl ?_
      refine z_get (q0 := 38) (k9 := 14) (v := .int (fi S.1 30)) b (kw_38 cy a rw S) rfl in_X8 (by decide) wf_X8_54 rfl dX8_grow_88 ?_
      refine z_calli b (z_runV (q0 := 35) (As := [.ref (a 10), .int ((ar S.1 21) x1.toNatClampNeg), .int (fi S.1 27), .int (fi S.1 30)]) (st := []) b (k_X2_why hrw S 4 ((ar S.1 21) x1.toNatClampNeg) (fi S.1 27) (fi S.1 30) _ h) cf_X2_why (kw_35 cy a rw S) rfl wm_X8_126 wi_X2_why ws_X2_why dX8_grow_91 rfl (Nat.le_of_ble_eq_true rfl) ⟨by decide, by decide, Nat.le_of_ble_eq_true rfl, Nat.le_of_ble_eq_true rfl⟩) (fun r6 S7 h => ?_)
      refine z_iconst (v := (-1)) b dX8_grow_94 (by decide) ?_
      refine y_icmp_ne (tgt := 124) (xl := r6.toInt) (yl := (-1)) b rfl (by decide) dX8_grow_95 (by decide) (fun c1 => ?_) (fun c1 => ?_)
      · replace h := h.1 c1
        exact z_X8_grow_B124 hrw b hk54 hk130 _ _ h
      · replace h := h.2 c1
        refine z_aload_n b dX8_grow_98 rfl rfl ?_
        refine z_aload_n b dX8_grow_99 rfl rfl ?_
        refine z_get (q0 := 38) (k9 := 0) (v := .ref (a 35)) b (kw_38 cy a rw S7) rfl in_X8 (by decide) wf_X8_70 rfl dX8_grow_100 ?_
        refine z_get (q0 := 35) (k9 := 2) (v := .ref (a 6)) b (kw_35 cy a rw S7) rfl in_X2 (by decide) wf_X8_130 rfl dX8_grow_103 ?_
        refine z_iconst (v := 0) b dX8_grow_106 (by decide) ?_
        refine z_iconst (v := 0) b dX8_grow_107 (by decide) ?_
        refine z_calll b (z_runV (q0 := 6) (As := [.int 0, .int 0]) (st := [.ref (a 38)]) b (k_X9_packed hrw S7 2 0 0 _ h) cf_X9_packed (kw_6 cy a rw S7) rfl wm_X8_86 wi_X9_packed ws_X9_packed dX8_grow_108 rfl (Nat.le_of_ble_eq_true rfl) ⟨by decide, by decide, Nat.le_of_ble_eq_true rfl, Nat.le_of_ble_eq_true rfl⟩) (fun r8 S9 h => ?_)
        refine z_aload_n b dX8_grow_111 rfl rfl ?_
        refine z_get (q0 := 38) (k9 := 15) (v := .int (fi S9.1 31)) b (kw_38 cy a rw S9) rfl in_X8 (by decide) wf_X8_57 rfl dX8_grow_112 ?_
        refine z_aload_n b dX8_grow_115 rfl rfl ?_
        refine z_get (q0 := 38) (k9 := 9) (v := .ref (a 45)) b (kw_38 cy a rw S9) rfl in_X8 (by decide) wf_X8_38 rfl dX8_grow_116 ?_
        refine z_iload_n b dX8_grow_119 rfl rfl ?_
        obtain ⟨g10, h⟩ := h
        refine y_iald (q0 := 45) (j := x1.toNatClampNeg) (v := ((ar S9.1 21) x1.toNatClampNeg)) b (kw_45 cy a rw S9) (zx_r g10.1 g10.2) rfl dX8_grow_120 ?_
        refine z_callv b (z_runV (q0 := 38) (As := [.long r8, .int (fi S9.1 31), .int ((ar S9.1 21) x1.toNatClampNeg)]) (st := []) b (k_X8_meet hrw S9 r8 (fi S9.1 31) ((ar S9.1 21) x1.toNatClampNeg) _ h) cf_X8_meet (kw_38 cy a rw S9) rfl wm_X8_90 wi_X8_meet ws_X8_meet dX8_grow_121 rfl (Nat.le_of_ble_eq_true rfl) ⟨by decide, by decide, Nat.le_of_ble_eq_true rfl, Nat.le_of_ble_eq_true rfl⟩) (fun S12 h => ?_)
        exact z_X8_grow_B124 hrw b hk54 hk130 _ _ h

set_option maxHeartbeats 200000 in
set_option maxRecDepth 100000 in
theorem zl_X8_grow_L54 {p : Program} {l : Launch} {e : Env} {R : Room} {s : State} {m : MethodId} {args : Array Value} {below : List Frame} {meth : Method} {c : Code} {D : va_G} {cy : Nat → ClassId} {T0 tB tE : Nat} {A : Nat → Prop} {a : Nat → Nat} {rw : Nat → Option Nat} (hrw : ∀ i, i < 6 → rw i = some (a (12 + 2 * i))) {post : Int32 → KS → Prop} {k130 : KS → Prop} (b : Bz p R s m args meth c D cy T0 tB tE A 2 cX8_grow RX8 (some .boolean) "grow" 4 101 0 0) (hk130 : ∀ (S : KS), k130 S → Z p l e R s m args below meth c D A 2 (MQ below (QI D (U := KS) post (kw cy a rw) A) args s 0 0 A) 0 0 (kw cy a rw S) [(0, .ref (a 38))] 130 []) : ∀ (n : Nat) (S : KS) (x1 : Int32), lpn (w_X8_grow_F54 cy tE post k130) (fun _ _ => False) n S x1 → Z p l e R s m args below meth c D A 2 (MQ below (QI D (U := KS) post (kw cy a rw) A) args s 0 0 A) 0 0 (kw cy a rw S) [(0, .ref (a 38)), (1, .int x1)] 54 [] := by
  intro n
  induction n with
  | zero => intro _ _ h; exact h.elim
  | succ n ih => intro S x1 h; exact z_X8_grow_F54 hrw b hk130 ih S x1 h

def w_X8_grow_B130 (cy : Nat → ClassId) (tE : Nat) (post : Int32 → KS → Prop) (S : KS)  : Prop :=
  post 1 (ksi S 31 ((fi S.1 31) + 1))

set_option maxHeartbeats 200000 in
set_option maxRecDepth 100000 in
theorem z_X8_grow_B130 {p : Program} {l : Launch} {e : Env} {R : Room} {s : State} {m : MethodId} {args : Array Value} {below : List Frame} {meth : Method} {c : Code} {D : va_G} {cy : Nat → ClassId} {T0 tB tE : Nat} {A : Nat → Prop} {a : Nat → Nat} {rw : Nat → Option Nat} (hrw : ∀ i, i < 6 → rw i = some (a (12 + 2 * i))) {post : Int32 → KS → Prop} (b : Bz p R s m args meth c D cy T0 tB tE A 2 cX8_grow RX8 (some .boolean) "grow" 4 101 0 0) (S : KS)  (h : w_X8_grow_B130 cy tE post S ) : Z p l e R s m args below meth c D A 2 (MQ below (QI D (U := KS) post (kw cy a rw) A) args s 0 0 A) 0 0 (kw cy a rw S) [(0, .ref (a 38))] 130 [] := by
  unfold w_X8_grow_B130 at h
  refine z_aload_n b dX8_grow_130 rfl rfl ?_
  refine z_dup b dX8_grow_131 rfl ?_
  refine z_get (q0 := 38) (k9 := 15) (v := .int (fi S.1 31)) b (kw_38 cy a rw S) rfl in_X8 (by decide) wf_X8_57 rfl dX8_grow_132 ?_
  refine z_iconst (v := 1) b dX8_grow_135 (by decide) ?_
  refine z_iadd b dX8_grow_136 rfl ?_
  refine z_put (q0 := 38) (k9 := 15) tyX8 b (kw_38 cy a rw S) rfl in_X8 tyX8_ok nmX8 (by decide) wf_X8_57 rfl rfl rfl rfl (Nat.le_of_ble_eq_true rfl) dX8_grow_137 (kwp_38_15 cy a rw S ((fi S.1 31) + 1)) ?_
  refine z_iconst (v := 1) b dX8_grow_140 (by decide) ?_
  exact z_zret (u := (ksi S 31 ((fi S.1 31) + 1))) b rfl (by decide) dX8_grow_141 h rfl (by decide) (by decide)

