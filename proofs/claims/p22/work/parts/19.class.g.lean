set_option maxHeartbeats 200000 in
set_option maxRecDepth 100000 in
theorem zl_X2_isNever_L2 {p : Program} {l : Launch} {e : Env} {R : Room} {s : State} {m : MethodId} {args : Array Value} {below : List Frame} {meth : Method} {c : Code} {D : va_G} {cy : Nat → ClassId} {T0 tB tE : Nat} {A : Nat → Prop} {a : Nat → Nat} {rw : Nat → Option Nat} (hrw : ∀ i, i < 6 → rw i = some (a (12 + 2 * i))) {post : Int32 → KS → Prop} {k82 : KS → Prop} (b : Bz p R s m args meth c D cy T0 tB tE A 6 cX2_isNever RX2 (some .boolean) "isNever" 3 72 0 0) (hk82 : ∀ (S : KS), k82 S → Z p l e R s m args below meth c D A 6 (MQ below (QI D (U := KS) post (kw cy a rw) A) args s 0 0 A) 0 0 (kw cy a rw S) [] 82 []) : ∀ (n : Nat) (S : KS) (x1 : Nat) (x2 : Nat) (x3 : Int32), lpn (w_X2_isNever_F2 cy tE post k82) (fun _ _ _ _ => False) n S x1 x2 x3 → Z p l e R s m args below meth c D A 6 (MQ below (QI D (U := KS) post (kw cy a rw) A) args s 0 0 A) 0 0 (kw cy a rw S) [(0, .ref (a 35)), (1, .ref (a (2 + 2 * x1))), (2, .ref x2), (3, .int x3)] 2 [] := by
  intro n
  induction n with
  | zero => intro _ _ _ _ h; exact h.elim
  | succ n ih => intro S x1 x2 x3 h; exact z_X2_isNever_F2 hrw b hk82 ih S x1 x2 x3 h

def w_X2_isNever_B82 (cy : Nat → ClassId) (tE : Nat) (post : Int32 → KS → Prop) (S : KS)  : Prop :=
  post 0 S

set_option maxHeartbeats 200000 in
set_option maxRecDepth 100000 in
theorem z_X2_isNever_B82 {p : Program} {l : Launch} {e : Env} {R : Room} {s : State} {m : MethodId} {args : Array Value} {below : List Frame} {meth : Method} {c : Code} {D : va_G} {cy : Nat → ClassId} {T0 tB tE : Nat} {A : Nat → Prop} {a : Nat → Nat} {rw : Nat → Option Nat} (hrw : ∀ i, i < 6 → rw i = some (a (12 + 2 * i))) {post : Int32 → KS → Prop} (b : Bz p R s m args meth c D cy T0 tB tE A 6 cX2_isNever RX2 (some .boolean) "isNever" 3 72 0 0) (S : KS)  (h : w_X2_isNever_B82 cy tE post S ) : Z p l e R s m args below meth c D A 6 (MQ below (QI D (U := KS) post (kw cy a rw) A) args s 0 0 A) 0 0 (kw cy a rw S) [] 82 [] := by
  unfold w_X2_isNever_B82 at h
  refine z_iconst (v := 0) b dX2_isNever_82 (by decide) ?_
  exact z_zret (u := S) b rfl (by decide) dX2_isNever_83 h rfl (by decide) (by decide)

def w_X2_isNever (cy : Nat → ClassId) (tE : Nat) (S : KS) (p0 : Nat) (p1 : Nat) (post : Int32 → KS → Prop) : Prop :=
  ∃ n, lpn (w_X2_isNever_F2 cy tE post (w_X2_isNever_B82 cy tE post)) (fun _ _ _ _ => False) n S p0 p1 0

set_option maxHeartbeats 200000 in
set_option maxRecDepth 100000 in
theorem k_X2_isNever {l : Launch} {D : va_G} {cy : Nat → ClassId} {T0 tB tE : Nat} {a : Nat → Nat} {rw : Nat → Option Nat} (hrw : ∀ i, i < 6 → rw i = some (a (12 + 2 * i))) (S : KS) (p0 : Nat) (p1 : Nat) (post : Int32 → KS → Prop) (h : w_X2_isNever cy tE S p0 p1 post) : Ct l D cy T0 tB tE yX2_isNever cX2_isNever 6 (some .boolean) 3 72 0 0 (kw cy a rw S) [.ref (a 35), .ref (a (2 + 2 * p0)), .ref p1] (QI D (U := KS) post (kw cy a rw)) := by
  refine Ct.ofZ RX2 "isNever" [(0, .ref (a 35)), (1, .ref (a (2 + 2 * p0))), (2, .ref p1)] rfl rfl rfl rfl (Nat.le_of_ble_eq_true rfl) ?_
  intro p e R s m args below meth c A b
  unfold w_X2_isNever at h
  refine z_iconst (v := 0) b dX2_isNever_0 (by decide) ?_
  refine z_istore_n (lv' := [(3, .int 0), (0, .ref (a 35)), (1, .ref (a (2 + 2 * p0))), (2, .ref p1)]) b dX2_isNever_1 rfl (by decide) rfl ?_
  refine z_lv0 (lv' := [(0, .ref (a 35)), (1, .ref (a (2 + 2 * p0))), (2, .ref p1), (3, .int 0)]) [1, 2, 3, 0] rfl ?_
  obtain ⟨n, h⟩ := h
  exact zl_X2_isNever_L2 hrw b (fun S h => z_X2_isNever_B82 hrw b _ h) n _ _ _ _ h

def w_X8_first_B21 (cy : Nat → ClassId) (tE : Nat) (post : Int32 → KS → Prop) (S : KS)  : Prop :=
  post (-1) S

set_option maxHeartbeats 200000 in
set_option maxRecDepth 100000 in
theorem z_X8_first_B21 {p : Program} {l : Launch} {e : Env} {R : Room} {s : State} {m : MethodId} {args : Array Value} {below : List Frame} {meth : Method} {c : Code} {D : va_G} {cy : Nat → ClassId} {T0 tB tE : Nat} {A : Nat → Prop} {a : Nat → Nat} {rw : Nat → Option Nat} (hrw : ∀ i, i < 6 → rw i = some (a (12 + 2 * i))) {post : Int32 → KS → Prop} (b : Bz p R s m args meth c D cy T0 tB tE A 5 cX8_first RX8 (some .int) "first" 5 122 0 0) (S : KS)  (h : w_X8_first_B21 cy tE post S ) : Z p l e R s m args below meth c D A 5 (MQ below (QI D (U := KS) post (kw cy a rw) A) args s 0 0 A) 0 0 (kw cy a rw S) [] 21 [] := by
  unfold w_X8_first_B21 at h
  refine z_iconst (v := (-1)) b dX8_first_21 (by decide) ?_
  exact z_iret (u := S) b rfl dX8_first_22 h rfl (by decide) (by decide)

def w_X8_first_F54 (cy : Nat → ClassId) (tE : Nat) (post : Int32 → KS → Prop) (k90 : KS → Nat → Int32 → Int32 → Prop) (k54 : KS → Nat → Int32 → Int32 → Prop) (S : KS) (x2 : Nat) (x3 : Int32) (x4 : Int32) : Prop :=
  (((fi S.1 33).toInt ≤ x3.toInt → k90 S x2 x3 x4) ∧ (x3.toInt < (fi S.1 33).toInt → w_X8_load cy tE S x3 (fun S17 => w_X2_isNever cy tE S17 4 x2 (fun r18 S19 => ((r18.toInt = 0 → k54 S19 x2 (x3 + 1) x4) ∧ (r18.toInt ≠ 0 → post x3 S19))))))

set_option maxHeartbeats 200000 in
set_option maxRecDepth 100000 in
theorem z_X8_first_F54 {p : Program} {l : Launch} {e : Env} {R : Room} {s : State} {m : MethodId} {args : Array Value} {below : List Frame} {meth : Method} {c : Code} {D : va_G} {cy : Nat → ClassId} {T0 tB tE : Nat} {A : Nat → Prop} {a : Nat → Nat} {rw : Nat → Option Nat} (hrw : ∀ i, i < 6 → rw i = some (a (12 + 2 * i))) {post : Int32 → KS → Prop} {k90 : KS → Nat → Int32 → Int32 → Prop} {k54 : KS → Nat → Int32 → Int32 → Prop} (b : Bz p R s m args meth c D cy T0 tB tE A 5 cX8_first RX8 (some .int) "first" 5 122 0 0) (hk90 : ∀ (S : KS) (x2 : Nat) (x3 : Int32) (x4 : Int32), k90 S x2 x3 x4 → Z p l e R s m args below meth c D A 5 (MQ below (QI D (U := KS) post (kw cy a rw) A) args s 0 0 A) 0 0 (kw cy a rw S) [(0, .ref (a 38)), (2, .ref x2), (3, .int x3), (4, .int x4)] 90 []) (hk54 : ∀ (S : KS) (x2 : Nat) (x3 : Int32) (x4 : Int32), k54 S x2 x3 x4 → Z p l e R s m args below meth c D A 5 (MQ below (QI D (U := KS) post (kw cy a rw) A) args s 0 0 A) 0 0 (kw cy a rw S) [(0, .ref (a 38)), (2, .ref x2), (3, .int x3), (4, .int x4)] 54 []) (S : KS) (x2 : Nat) (x3 : Int32) (x4 : Int32) (h : w_X8_first_F54 cy tE post k90 k54 S x2 x3 x4) : Z p l e R s m args below meth c D A 5 (MQ below (QI D (U := KS) post (kw cy a rw) A) args s 0 0 A) 0 0 (kw cy a rw S) [(0, .ref (a 38)), (2, .ref x2), (3, .int x3), (4, .int x4)] 54 [] := by
  unfold w_X8_first_F54 at h
  refine z_iload_n b dX8_first_54 rfl rfl ?_
  refine z_aload_n b dX8_first_55 rfl rfl ?_
  refine z_get (q0 := 38) (k9 := 17) (v := .int (fi S.1 33)) b (kw_38 cy a rw S) rfl in_X8 (by decide) wf_X8_64 rfl dX8_first_56 ?_
  refine y_icmp_ge (tgt := 90) (xl := x3.toInt) (yl := (fi S.1 33).toInt) b rfl rfl dX8_first_59 (by decide) (fun c1 => ?_) (fun c1 => ?_)
  · replace h := h.1 c1
    exact hk90 _ _ _ _ h
  · replace h := h.2 c1
    refine z_aload_n b dX8_first_62 rfl rfl ?_
    refine z_iload_n b dX8_first_63 rfl rfl ?_
    refine z_callv b (z_runV (q0 := 38) (As := [.int x3]) (st := []) b (k_X8_load hrw S x3 _ h) cf_X8_load (kw_38 cy a rw S) rfl wm_X8_153 wi_X8_load ws_X8_load dX8_first_64 rfl (Nat.le_of_ble_eq_true rfl) ⟨by decide, by decide, Nat.le_of_ble_eq_true rfl, Nat.le_of_ble_eq_true rfl⟩) (fun S17 h => ?_)
    refine z_aload_n b dX8_first_67 rfl rfl ?_
    refine z_get (q0 := 38) (k9 := 0) (v := .ref (a 35)) b (kw_38 cy a rw S17) rfl in_X8 (by decide) wf_X8_70 rfl dX8_first_68 ?_
    refine z_aload_n b dX8_first_71 rfl rfl ?_
    refine z_get (q0 := 38) (k9 := 2) (v := .ref (a 10)) b (kw_38 cy a rw S17) rfl in_X8 (by decide) wf_X8_12 rfl dX8_first_72 ?_
    refine z_aload_n b dX8_first_75 rfl rfl ?_
    refine z_calli b (z_runV (q0 := 35) (As := [.ref (a 10), .ref x2]) (st := []) b (k_X2_isNever hrw S17 4 x2 _ h) cf_X2_isNever (kw_35 cy a rw S17) rfl wm_X8_157 wi_X2_isNever ws_X2_isNever dX8_first_76 rfl (Nat.le_of_ble_eq_true rfl) ⟨by decide, by decide, Nat.le_of_ble_eq_true rfl, Nat.le_of_ble_eq_true rfl⟩) (fun r18 S19 h => ?_)
    refine y_if_eq (tgt := 84) (xl := r18.toInt) b rfl dX8_first_79 (by decide) (fun c1 => ?_) (fun c1 => ?_)
    · replace h := h.1 c1
      refine z_iinc (k9 := 2) (v := (x3 + 1)) (lv' := [(3, .int (x3 + 1)), (0, .ref (a 38)), (2, .ref x2), (4, .int x4)]) b dX8_first_84 rfl rfl (by decide) rfl ?_
      refine z_goto (tgt := 54) b dX8_first_87 (by decide) ?_
      refine z_lv0 (lv' := [(0, .ref (a 38)), (2, .ref x2), (3, .int (x3 + 1)), (4, .int x4)]) [1, 2, 0, 3] rfl ?_
      exact hk54 _ _ _ _ h
    · replace h := h.2 c1
      refine z_iload_n b dX8_first_82 rfl rfl ?_
      exact z_iret (u := S19) b rfl dX8_first_83 h rfl (by decide) (by decide)

set_option maxHeartbeats 200000 in
set_option maxRecDepth 100000 in
theorem zl_X8_first_L54 {p : Program} {l : Launch} {e : Env} {R : Room} {s : State} {m : MethodId} {args : Array Value} {below : List Frame} {meth : Method} {c : Code} {D : va_G} {cy : Nat → ClassId} {T0 tB tE : Nat} {A : Nat → Prop} {a : Nat → Nat} {rw : Nat → Option Nat} (hrw : ∀ i, i < 6 → rw i = some (a (12 + 2 * i))) {post : Int32 → KS → Prop} {k90 : KS → Nat → Int32 → Int32 → Prop} (b : Bz p R s m args meth c D cy T0 tB tE A 5 cX8_first RX8 (some .int) "first" 5 122 0 0) (hk90 : ∀ (S : KS) (x2 : Nat) (x3 : Int32) (x4 : Int32), k90 S x2 x3 x4 → Z p l e R s m args below meth c D A 5 (MQ below (QI D (U := KS) post (kw cy a rw) A) args s 0 0 A) 0 0 (kw cy a rw S) [(0, .ref (a 38)), (2, .ref x2), (3, .int x3), (4, .int x4)] 90 []) : ∀ (n : Nat) (S : KS) (x2 : Nat) (x3 : Int32) (x4 : Int32), lpn (w_X8_first_F54 cy tE post k90) (fun _ _ _ _ => False) n S x2 x3 x4 → Z p l e R s m args below meth c D A 5 (MQ below (QI D (U := KS) post (kw cy a rw) A) args s 0 0 A) 0 0 (kw cy a rw S) [(0, .ref (a 38)), (2, .ref x2), (3, .int x3), (4, .int x4)] 54 [] := by
  intro n
  induction n with
  | zero => intro _ _ _ _ h; exact h.elim
  | succ n ih => intro S x2 x3 x4 h; exact z_X8_first_F54 hrw b hk90 ih S x2 x3 x4 h

def w_X8_first_B90 (cy : Nat → ClassId) (tE : Nat) (post : Int32 → KS → Prop) (k46 : KS → Nat → Int32 → Int32 → Prop) (k105 : KS → Prop) (S : KS) (x2 : Nat) (x3 : Int32) (x4 : Int32) : Prop :=
  w_X8_grow cy tE S (fun r20 S21 => ((r20.toInt ≠ 0 → k46 S21 x2 x3 (x4 + 1)) ∧ (r20.toInt = 0 → post (-1) S21)))

set_option maxHeartbeats 200000 in
set_option maxRecDepth 100000 in
theorem z_X8_first_B90 {p : Program} {l : Launch} {e : Env} {R : Room} {s : State} {m : MethodId} {args : Array Value} {below : List Frame} {meth : Method} {c : Code} {D : va_G} {cy : Nat → ClassId} {T0 tB tE : Nat} {A : Nat → Prop} {a : Nat → Nat} {rw : Nat → Option Nat} (hrw : ∀ i, i < 6 → rw i = some (a (12 + 2 * i))) {post : Int32 → KS → Prop} {k46 : KS → Nat → Int32 → Int32 → Prop} {k105 : KS → Prop} (b : Bz p R s m args meth c D cy T0 tB tE A 5 cX8_first RX8 (some .int) "first" 5 122 0 0) (hk46 : ∀ (S : KS) (x2 : Nat) (x3 : Int32) (x4 : Int32), k46 S x2 x3 x4 → Z p l e R s m args below meth c D A 5 (MQ below (QI D (U := KS) post (kw cy a rw) A) args s 0 0 A) 0 0 (kw cy a rw S) [(0, .ref (a 38)), (2, .ref x2), (3, .int x3), (4, .int x4)] 46 []) (hk105 : ∀ (S : KS), k105 S → Z p l e R s m args below meth c D A 5 (MQ below (QI D (U := KS) post (kw cy a rw) A) args s 0 0 A) 0 0 (kw cy a rw S) [] 105 []) (S : KS) (x2 : Nat) (x3 : Int32) (x4 : Int32) (h : w_X8_first_B90 cy tE post k46 k105 S x2 x3 x4) : Z p l e R s m args below meth c D A 5 (MQ below (QI D (U := KS) post (kw cy a rw) A) args s 0 0 A) 0 0 (kw cy a rw S) [(0, .ref (a 38)), (2, .ref x2), (3, .int x3), (4, .int x4)] 90 [] := by
  unfold w_X8_first_B90 at h
  refine z_aload_n b dX8_first_90 rfl rfl ?_
  refine z_calli b (z_runV (q0 := 38) (As := []) (st := []) b (k_X8_grow hrw S _ h) cf_X8_grow (kw_38 cy a rw S) rfl wm_X8_133 wi_X8_grow ws_X8_grow dX8_first_91 rfl (Nat.le_of_ble_eq_true rfl) ⟨by decide, by decide, Nat.le_of_ble_eq_true rfl, Nat.le_of_ble_eq_true rfl⟩) (fun r20 S21 h => ?_)
  refine y_if_ne (tgt := 99) (xl := r20.toInt) b rfl dX8_first_94 (by decide) (fun c1 => ?_) (fun c1 => ?_)
  · replace h := h.1 c1
    refine z_iinc (k9 := 3) (v := (x4 + 1)) (lv' := [(4, .int (x4 + 1)), (0, .ref (a 38)), (2, .ref x2), (3, .int x3)]) b dX8_first_99 rfl rfl (by decide) rfl ?_
    refine z_goto (tgt := 46) b dX8_first_102 (by decide) ?_
    refine z_lv0 (lv' := [(0, .ref (a 38)), (2, .ref x2), (3, .int x3), (4, .int (x4 + 1))]) [1, 2, 3, 0] rfl ?_
    exact hk46 _ _ _ _ h
  · replace h := h.2 c1
    refine z_iconst (v := (-1)) b dX8_first_97 (by decide) ?_
    exact z_iret (u := S21) b rfl dX8_first_98 h rfl (by decide) (by decide)

def w_X8_first_F46 (cy : Nat → ClassId) (tE : Nat) (post : Int32 → KS → Prop) (k105 : KS → Prop) (k46 : KS → Nat → Int32 → Int32 → Prop) (S : KS) (x2 : Nat) (x3 : Int32) (x4 : Int32) : Prop :=
  ((400 < x4.toInt → k105 S) ∧ (x4.toInt ≤ 400 → ∃ n, lpn (w_X8_first_F54 cy tE post (w_X8_first_B90 cy tE post k46 k105)) (fun _ _ _ _ => False) n S x2 x3 x4))

set_option maxHeartbeats 200000 in
set_option maxRecDepth 100000 in
theorem z_X8_first_F46 {p : Program} {l : Launch} {e : Env} {R : Room} {s : State} {m : MethodId} {args : Array Value} {below : List Frame} {meth : Method} {c : Code} {D : va_G} {cy : Nat → ClassId} {T0 tB tE : Nat} {A : Nat → Prop} {a : Nat → Nat} {rw : Nat → Option Nat} (hrw : ∀ i, i < 6 → rw i = some (a (12 + 2 * i))) {post : Int32 → KS → Prop} {k105 : KS → Prop} {k46 : KS → Nat → Int32 → Int32 → Prop} (b : Bz p R s m args meth c D cy T0 tB tE A 5 cX8_first RX8 (some .int) "first" 5 122 0 0) (hk105 : ∀ (S : KS), k105 S → Z p l e R s m args below meth c D A 5 (MQ below (QI D (U := KS) post (kw cy a rw) A) args s 0 0 A) 0 0 (kw cy a rw S) [] 105 []) (hk46 : ∀ (S : KS) (x2 : Nat) (x3 : Int32) (x4 : Int32), k46 S x2 x3 x4 → Z p l e R s m args below meth c D A 5 (MQ below (QI D (U := KS) post (kw cy a rw) A) args s 0 0 A) 0 0 (kw cy a rw S) [(0, .ref (a 38)), (2, .ref x2), (3, .int x3), (4, .int x4)] 46 []) (S : KS) (x2 : Nat) (x3 : Int32) (x4 : Int32) (h : w_X8_first_F46 cy tE post k105 k46 S x2 x3 x4) : Z p l e R s m args below meth c D A 5 (MQ below (QI D (U := KS) post (kw cy a rw) A) args s 0 0 A) 0 0 (kw cy a rw S) [(0, .ref (a 38)), (2, .ref x2), (3, .int x3), (4, .int x4)] 46 [] := by
  unfold w_X8_first_F46 at h
  refine z_iload b dX8_first_46 rfl ?_
  refine z_sipush (v := 400) b dX8_first_48 (by decide) ?_
  refine y_icmp_gt (tgt := 105) (xl := x4.toInt) (yl := 400) b rfl (by decide) dX8_first_51 (by decide) (fun c1 => ?_) (fun c1 => ?_)
  · replace h := h.1 c1
    refine z_lv0 (lv' := []) [] rfl ?_
    exact hk105 _ h
  · replace h := h.2 c1
    obtain ⟨n, h⟩ := h
    exact zl_X8_first_L54 hrw b (fun S x2 x3 x4 h => z_X8_first_B90 hrw b hk46 hk105 _ _ _ _ h) n _ _ _ _ h

set_option maxHeartbeats 200000 in
set_option maxRecDepth 100000 in
theorem zl_X8_first_L46 {p : Program} {l : Launch} {e : Env} {R : Room} {s : State} {m : MethodId} {args : Array Value} {below : List Frame} {meth : Method} {c : Code} {D : va_G} {cy : Nat → ClassId} {T0 tB tE : Nat} {A : Nat → Prop} {a : Nat → Nat} {rw : Nat → Option Nat} (hrw : ∀ i, i < 6 → rw i = some (a (12 + 2 * i))) {post : Int32 → KS → Prop} {k105 : KS → Prop} (b : Bz p R s m args meth c D cy T0 tB tE A 5 cX8_first RX8 (some .int) "first" 5 122 0 0) (hk105 : ∀ (S : KS), k105 S → Z p l e R s m args below meth c D A 5 (MQ below (QI D (U := KS) post (kw cy a rw) A) args s 0 0 A) 0 0 (kw cy a rw S) [] 105 []) : ∀ (n : Nat) (S : KS) (x2 : Nat) (x3 : Int32) (x4 : Int32), lpn (w_X8_first_F46 cy tE post k105) (fun _ _ _ _ => False) n S x2 x3 x4 → Z p l e R s m args below meth c D A 5 (MQ below (QI D (U := KS) post (kw cy a rw) A) args s 0 0 A) 0 0 (kw cy a rw S) [(0, .ref (a 38)), (2, .ref x2), (3, .int x3), (4, .int x4)] 46 [] := by
  intro n
  induction n with
  | zero => intro _ _ _ _ h; exact h.elim
  | succ n ih => intro S x2 x3 x4 h; exact z_X8_first_F46 hrw b hk105 ih S x2 x3 x4 h

def w_X8_first_B105 (cy : Nat → ClassId) (tE : Nat) (post : Int32 → KS → Prop) (S : KS)  : Prop :=
  post (-1) S

set_option maxHeartbeats 200000 in
set_option maxRecDepth 100000 in
theorem z_X8_first_B105 {p : Program} {l : Launch} {e : Env} {R : Room} {s : State} {m : MethodId} {args : Array Value} {below : List Frame} {meth : Method} {c : Code} {D : va_G} {cy : Nat → ClassId} {T0 tB tE : Nat} {A : Nat → Prop} {a : Nat → Nat} {rw : Nat → Option Nat} (hrw : ∀ i, i < 6 → rw i = some (a (12 + 2 * i))) {post : Int32 → KS → Prop} (b : Bz p R s m args meth c D cy T0 tB tE A 5 cX8_first RX8 (some .int) "first" 5 122 0 0) (S : KS)  (h : w_X8_first_B105 cy tE post S ) : Z p l e R s m args below meth c D A 5 (MQ below (QI D (U := KS) post (kw cy a rw) A) args s 0 0 A) 0 0 (kw cy a rw S) [] 105 [] := by
  unfold w_X8_first_B105 at h
  refine z_iconst (v := (-1)) b dX8_first_105 (by decide) ?_
  exact z_iret (u := S) b rfl dX8_first_106 h rfl (by decide) (by decide)

def w_X8_first (cy : Nat → ClassId) (tE : Nat) (S : KS) (p0 : Int32) (post : Int32 → KS → Prop) : Prop :=
  ((p0.toInt < 0 → w_X8_first_B21 cy tE post S) ∧ (0 ≤ p0.toInt → ∃ (i1 : Nat) (f2 : List Value), S.2.2.2[i1]? = some ((S.2.1 1), .inr (0, f2)) ∧ w_Jx4a65c_size_8abf5 cy tE S (S.2.1 1) (fun r4 S5 => ((p0.toInt < r4.toInt → ∃ (i6 : Nat) (f7 : List Value), S5.2.2.2[i6]? = some ((S5.2.1 1), .inr (0, f7)) ∧ w_Jx4a65c_get_915e3 cy tE S5 (S5.2.1 1) p0 (fun r9 S10 => ∃ q11 : Nat, r9 = some q11 ∧ ∃ (i13 : Nat) (f14 : List Value), S10.2.2.2[i13]? = some (q11, .inr (2, f14)) ∧ ∃ n, lpn (w_X8_first_F46 cy tE post (w_X8_first_B105 cy tE post)) (fun _ _ _ _ => False) n S10 q11 0 0)) ∧ (r4.toInt ≤ p0.toInt → w_X8_first_B21 cy tE post S5)))))

set_option maxHeartbeats 200000 in
set_option maxRecDepth 100000 in
theorem k_X8_first {l : Launch} {D : va_G} {cy : Nat → ClassId} {T0 tB tE : Nat} {a : Nat → Nat} {rw : Nat → Option Nat} (hrw : ∀ i, i < 6 → rw i = some (a (12 + 2 * i))) (S : KS) (p0 : Int32) (post : Int32 → KS → Prop) (h : w_X8_first cy tE S p0 post) : Ct l D cy T0 tB tE yX8_first cX8_first 5 (some .int) 5 122 0 0 (kw cy a rw S) [.ref (a 38), .int p0] (QI D (U := KS) post (kw cy a rw)) := by
  refine Ct.ofZ RX8 "first" [(0, .ref (a 38)), (1, .int p0)] rfl rfl rfl rfl (Nat.le_of_ble_eq_true rfl) ?_
  intro p e R s m args below meth c A b
  unfold w_X8_first at h
  refine z_iload_n b dX8_first_0 rfl rfl ?_
  refine y_if_lt (tgt := 21) (xl := p0.toInt) b rfl dX8_first_1 (by decide) (fun c1 => ?_) (fun c1 => ?_)
  · replace h := h.1 c1
    refine z_lv0 (lv' := []) [] rfl ?_
    exact z_X8_first_B21 hrw b _ h
  · replace h := h.2 c1
    refine z_iload_n b dX8_first_4 rfl rfl ?_
    refine z_aload_n b dX8_first_5 rfl rfl ?_
    refine z_get (q0 := 38) (k9 := 0) (v := .ref (a 35)) b (kw_38 cy a rw S) rfl in_X8 (by decide) wf_X8_70 rfl dX8_first_6 ?_
    refine z_get (q0 := 35) (k9 := 0) (v := .ref (a 33)) b (kw_35 cy a rw S) rfl in_X2 (by decide) wf_X8_101 rfl dX8_first_9 ?_
    refine z_get (q0 := 33) (k9 := 1) (v := .ref (S.2.1 1)) b (kw_33 cy a rw S) rfl in_X4 (by decide) wf_X8_137 rfl dX8_first_12 ?_
    obtain ⟨i1, f2, g3, h⟩ := h
    refine z_calli b (z_runV (q0 := 47 + i1) (As := []) (st := [.int p0]) b (k_Jx4a65c_size_8abf5 hrw S (S.2.1 1) _ h) cf_Jx4a65c_size_8abf5 (kw_dyn cy a rw S g3) rfl wm_X8_141 wi_Jx4a65c_size_8abf5 ws_Jx4a65c_size_8abf5 dX8_first_15 rfl (Nat.le_of_ble_eq_true rfl) ⟨by decide, by decide, Nat.le_of_ble_eq_true rfl, Nat.le_of_ble_eq_true rfl⟩) (fun r4 S5 h => ?_)
    refine y_icmp_lt (tgt := 23) (xl := p0.toInt) (yl := r4.toInt) b rfl rfl dX8_first_18 (by decide) (fun c1 => ?_) (fun c1 => ?_)
    · replace h := h.1 c1
      refine z_aload_n b dX8_first_23 rfl rfl ?_
      refine z_get (q0 := 38) (k9 := 0) (v := .ref (a 35)) b (kw_38 cy a rw S5) rfl in_X8 (by decide) wf_X8_70 rfl dX8_first_24 ?_
      refine z_get (q0 := 35) (k9 := 0) (v := .ref (a 33)) b (kw_35 cy a rw S5) rfl in_X2 (by decide) wf_X8_101 rfl dX8_first_27 ?_
      refine z_get (q0 := 33) (k9 := 1) (v := .ref (S5.2.1 1)) b (kw_33 cy a rw S5) rfl in_X4 (by decide) wf_X8_137 rfl dX8_first_30 ?_
      refine z_iload_n b dX8_first_33 rfl rfl ?_
      obtain ⟨i6, f7, g8, h⟩ := h
      refine z_callq b (z_runV (q0 := 47 + i6) (As := [.int p0]) (st := []) b (k_Jx4a65c_get_915e3 hrw S5 (S5.2.1 1) p0 _ h) cf_Jx4a65c_get_915e3 (kw_dyn cy a rw S5 g8) rfl wm_X8_147 wi_Jx4a65c_get_915e3 ws_Jx4a65c_get_915e3 dX8_first_34 rfl (Nat.le_of_ble_eq_true rfl) ⟨by decide, by decide, Nat.le_of_ble_eq_true rfl, Nat.le_of_ble_eq_true rfl⟩) (fun r9 S10 h => ?_)
      obtain ⟨q11, g12, h⟩ := h
      subst g12
      obtain ⟨i13, f14, g15, h⟩ := h
      refine z_cast (q0 := 47 + i13) (ci := 2) b wk_X8_151 (kw_dyn cy a rw S10 g15) rfl dX8_first_37 ?_
      refine z_astore_n (lv' := [(2, .ref q11), (0, .ref (a 38)), (1, .int p0)]) b dX8_first_40 rfl (by decide) rfl ?_
      refine z_iconst (v := 0) b dX8_first_41 (by decide) ?_
      refine z_istore_n (lv' := [(3, .int 0), (2, .ref q11), (0, .ref (a 38)), (1, .int p0)]) b dX8_first_42 rfl (by decide) rfl ?_
      refine z_iconst (v := 0) b dX8_first_43 (by decide) ?_
      refine z_istore (lv' := [(4, .int 0), (3, .int 0), (2, .ref q11), (0, .ref (a 38)), (1, .int p0)]) b dX8_first_44 (by decide) rfl ?_
      refine z_lv0 (lv' := [(0, .ref (a 38)), (2, .ref q11), (3, .int 0), (4, .int 0)]) [3, 2, 1, 0] rfl ?_
      obtain ⟨n, h⟩ := h
      exact zl_X8_first_L46 hrw b (fun S h => z_X8_first_B105 hrw b _ h) n _ _ _ _ h
    · replace h := h.2 c1
      refine z_lv0 (lv' := []) [] rfl ?_
      exact z_X8_first_B21 hrw b _ h

def w_X11_hasHole_B42 (cy : Nat → ClassId) (tE : Nat) (post : Int32 → KS → Prop) (S : KS) (y0 : Int32) : Prop :=
  post y0 S

set_option maxHeartbeats 200000 in
set_option maxRecDepth 100000 in
theorem z_X11_hasHole_B42 {p : Program} {l : Launch} {e : Env} {R : Room} {s : State} {m : MethodId} {args : Array Value} {below : List Frame} {meth : Method} {c : Code} {D : va_G} {cy : Nat → ClassId} {T0 tB tE : Nat} {A : Nat → Prop} {a : Nat → Nat} {rw : Nat → Option Nat} (hrw : ∀ i, i < 6 → rw i = some (a (12 + 2 * i))) {post : Int32 → KS → Prop} (b : Bz p R s m args meth c D cy T0 tB tE A 4 cX11_hasHole RX11 (some .int) "hasHole" 6 146 0 0) (S : KS) (y0 : Int32) (h : w_X11_hasHole_B42 cy tE post S y0) : Z p l e R s m args below meth c D A 4 (MQ below (QI D (U := KS) post (kw cy a rw) A) args s 0 0 A) 0 0 (kw cy a rw S) [] 42 [.int y0] := by
  unfold w_X11_hasHole_B42 at h
  exact z_iret (u := S) b rfl dX11_hasHole_42 h rfl (by decide) (by decide)

def w_X11_hasHole (cy : Nat → ClassId) (tE : Nat) (S : KS) (p0 : Int32) (p1 : Int32) (p2 : Int32) (post : Int32 → KS → Prop) : Prop :=
  w_X8_begin cy tE S p1 p2 7 0 (fun S2 => w_X8_first cy tE S2 p0 (fun r3 S4 => ((r3.toInt = (-1) → (((fi S4.1 34).toInt = 0 → w_X11_hasHole_B42 cy tE post S4 0) ∧ ((fi S4.1 34).toInt ≠ 0 → w_X11_hasHole_B42 cy tE post S4 (-2)))) ∧ (r3.toInt ≠ (-1) → post 1 S4))))

set_option maxHeartbeats 200000 in
set_option maxRecDepth 100000 in
theorem k_X11_hasHole {l : Launch} {D : va_G} {cy : Nat → ClassId} {T0 tB tE : Nat} {a : Nat → Nat} {rw : Nat → Option Nat} (hrw : ∀ i, i < 6 → rw i = some (a (12 + 2 * i))) (S : KS) (p0 : Int32) (p1 : Int32) (p2 : Int32) (post : Int32 → KS → Prop) (h : w_X11_hasHole cy tE S p0 p1 p2 post) : Ct l D cy T0 tB tE yX11_hasHole cX11_hasHole 4 (some .int) 6 146 0 0 (kw cy a rw S) [.ref (a 0), .int p0, .int p1, .int p2] (QI D (U := KS) post (kw cy a rw)) := by
  refine Ct.ofZ RX11 "hasHole" [(0, .ref (a 0)), (1, .int p0), (2, .int p1), (3, .int p2)] rfl rfl rfl rfl (Nat.le_of_ble_eq_true rfl) ?_
  intro p e R s m args below meth c A b
  unfold w_X11_hasHole at h
  refine z_aload_n b dX11_hasHole_0 rfl rfl ?_
  refine z_get (q0 := 0) (k9 := 6) (v := .ref (a 38)) b (kw_0 cy a rw S) rfl in_X11 (by decide) wf_X11_52 rfl dX11_hasHole_1 ?_
  refine z_iload_n b dX11_hasHole_4 rfl rfl ?_
  refine z_iload_n b dX11_hasHole_5 rfl rfl ?_
  refine z_bipush (v := 7) b dX11_hasHole_6 (by decide) ?_
  refine z_iconst (v := 0) b dX11_hasHole_8 (by decide) ?_
  refine z_callv b (z_runV (q0 := 38) (As := [.int p1, .int p2, .int 7, .int 0]) (st := []) b (k_X8_begin hrw S p1 p2 7 0 _ h) cf_X8_begin (kw_38 cy a rw S) rfl wm_X11_206 wi_X8_begin ws_X8_begin dX11_hasHole_9 rfl (Nat.le_of_ble_eq_true rfl) ⟨by decide, by decide, Nat.le_of_ble_eq_true rfl, Nat.le_of_ble_eq_true rfl⟩) (fun S2 h => ?_)
  refine z_aload_n b dX11_hasHole_12 rfl rfl ?_
  refine z_get (q0 := 0) (k9 := 6) (v := .ref (a 38)) b (kw_0 cy a rw S2) rfl in_X11 (by decide) wf_X11_52 rfl dX11_hasHole_13 ?_
  refine z_iload_n b dX11_hasHole_16 rfl rfl ?_
  refine z_calli b (z_runV (q0 := 38) (As := [.int p0]) (st := []) b (k_X8_first hrw S2 p0 _ h) cf_X8_first (kw_38 cy a rw S2) rfl wm_X11_210 wi_X8_first ws_X8_first dX11_hasHole_17 rfl (Nat.le_of_ble_eq_true rfl) ⟨by decide, by decide, Nat.le_of_ble_eq_true rfl, Nat.le_of_ble_eq_true rfl⟩) (fun r3 S4 h => ?_)
  refine z_iconst (v := (-1)) b dX11_hasHole_20 (by decide) ?_
  refine y_icmp_eq (tgt := 26) (xl := r3.toInt) (yl := (-1)) b rfl (by decide) dX11_hasHole_21 (by decide) (fun c1 => ?_) (fun c1 => ?_)
  · replace h := h.1 c1
    refine z_aload_n b dX11_hasHole_26 rfl rfl ?_
    refine z_get (q0 := 0) (k9 := 6) (v := .ref (a 38)) b (kw_0 cy a rw S4) rfl in_X11 (by decide) wf_X11_52 rfl dX11_hasHole_27 ?_
    refine z_get (q0 := 38) (k9 := 18) (v := .int (fi S4.1 34)) b (kw_38 cy a rw S4) rfl in_X8 (by decide) wf_X11_214 rfl dX11_hasHole_30 ?_
    refine y_if_eq (tgt := 41) (xl := (fi S4.1 34).toInt) b rfl dX11_hasHole_33 (by decide) (fun c1 => ?_) (fun c1 => ?_)
    · replace h := h.1 c1
      refine z_iconst (v := 0) b dX11_hasHole_41 (by decide) ?_
      refine z_lv0 (lv' := []) [] rfl ?_
      exact z_X11_hasHole_B42 hrw b _ _ h
    · replace h := h.2 c1
      refine z_bipush (v := (-2)) b dX11_hasHole_36 (by decide) ?_
      refine z_goto (tgt := 42) b dX11_hasHole_38 (by decide) ?_
      refine z_lv0 (lv' := []) [] rfl ?_
      exact z_X11_hasHole_B42 hrw b _ _ h
  · replace h := h.2 c1
    refine z_iconst (v := 1) b dX11_hasHole_24 (by decide) ?_
    exact z_iret (u := S4) b rfl dX11_hasHole_25 h rfl (by decide) (by decide)

def w_X11_debt_B17 (cy : Nat → ClassId) (tE : Nat) (post : Int32 → KS → Prop) (S : KS)  : Prop :=
  post 0 S

set_option maxHeartbeats 200000 in
set_option maxRecDepth 100000 in
theorem z_X11_debt_B17 {p : Program} {l : Launch} {e : Env} {R : Room} {s : State} {m : MethodId} {args : Array Value} {below : List Frame} {meth : Method} {c : Code} {D : va_G} {cy : Nat → ClassId} {T0 tB tE : Nat} {A : Nat → Prop} {a : Nat → Nat} {rw : Nat → Option Nat} (hrw : ∀ i, i < 6 → rw i = some (a (12 + 2 * i))) {post : Int32 → KS → Prop} (b : Bz p R s m args meth c D cy T0 tB tE A 4 cX11_debt RX11 (some .boolean) "debt" 2 41 0 0) (S : KS)  (h : w_X11_debt_B17 cy tE post S ) : Z p l e R s m args below meth c D A 4 (MQ below (QI D (U := KS) post (kw cy a rw) A) args s 0 0 A) 0 0 (kw cy a rw S) [] 17 [] := by
  unfold w_X11_debt_B17 at h
  refine z_iconst (v := 0) b dX11_debt_17 (by decide) ?_
  exact z_zret (u := S) b rfl (by decide) dX11_debt_18 h rfl (by decide) (by decide)

def w_X11_debt (cy : Nat → ClassId) (tE : Nat) (S : KS) (p0 : Int32) (p1 : Int32) (p2 : Int32) (post : Int32 → KS → Prop) : Prop :=
  w_X11_arePair cy tE S p0 p1 (fun r1 S2 => ((r1.toInt = 0 → w_X11_debt_B17 cy tE post S2) ∧ (r1.toInt ≠ 0 → w_X11_isWithin cy tE S2 p2 7 (fun r3 S4 => ((r3.toInt ≠ 0 → w_X9_set cy tE S4 0 (((10 : Int32) + ((3 : Int32) * p0)) + p1) p2 (fun S6 => w_X8_forget cy tE S6 (fun S8 => post 1 S8))) ∧ (r3.toInt = 0 → w_X11_debt_B17 cy tE post S4))))))

set_option maxHeartbeats 200000 in
set_option maxRecDepth 100000 in
theorem k_X11_debt {l : Launch} {D : va_G} {cy : Nat → ClassId} {T0 tB tE : Nat} {a : Nat → Nat} {rw : Nat → Option Nat} (hrw : ∀ i, i < 6 → rw i = some (a (12 + 2 * i))) (S : KS) (p0 : Int32) (p1 : Int32) (p2 : Int32) (post : Int32 → KS → Prop) (h : w_X11_debt cy tE S p0 p1 p2 post) : Ct l D cy T0 tB tE yX11_debt cX11_debt 4 (some .boolean) 2 41 0 0 (kw cy a rw S) [.ref (a 0), .int p0, .int p1, .int p2] (QI D (U := KS) post (kw cy a rw)) := by
  refine Ct.ofZ RX11 "debt" [(0, .ref (a 0)), (1, .int p0), (2, .int p1), (3, .int p2)] rfl rfl rfl rfl (Nat.le_of_ble_eq_true rfl) ?_
  intro p e R s m args below meth c A b
  unfold w_X11_debt at h
  refine z_iload_n b dX11_debt_0 rfl rfl ?_
  refine z_iload_n b dX11_debt_1 rfl rfl ?_
  refine z_calli b (z_runS (As := [.int p0, .int p1]) (st := []) b (k_X11_arePair hrw S p0 p1 _ h) cf_X11_arePair wm_X11_84 ws_X11_arePair dX11_debt_2 rfl (Nat.le_of_ble_eq_true rfl) ⟨by decide, by decide, Nat.le_of_ble_eq_true rfl, Nat.le_of_ble_eq_true rfl⟩) (fun r1 S2 h => ?_)
  refine y_if_eq (tgt := 17) (xl := r1.toInt) b rfl dX11_debt_5 (by decide) (fun c1 => ?_) (fun c1 => ?_)
  · replace h := h.1 c1
    refine z_lv0 (lv' := []) [] rfl ?_
    exact z_X11_debt_B17 hrw b _ h
  · replace h := h.2 c1
    refine z_iload_n b dX11_debt_8 rfl rfl ?_
    refine z_bipush (v := 7) b dX11_debt_9 (by decide) ?_
    refine z_calli b (z_runS (As := [.int p2, .int 7]) (st := []) b (k_X11_isWithin hrw S2 p2 7 _ h) cf_X11_isWithin wm_X11_73 ws_X11_isWithin dX11_debt_11 rfl (Nat.le_of_ble_eq_true rfl) ⟨by decide, by decide, Nat.le_of_ble_eq_true rfl, Nat.le_of_ble_eq_true rfl⟩) (fun r3 S4 h => ?_)
    refine y_if_ne (tgt := 19) (xl := r3.toInt) b rfl dX11_debt_14 (by decide) (fun c1 => ?_) (fun c1 => ?_)
    · replace h := h.1 c1
      refine z_aload_n b dX11_debt_19 rfl rfl ?_
      refine z_get (q0 := 0) (k9 := 4) (v := .ref (a 2)) b (kw_0 cy a rw S4) rfl in_X11 (by decide) wf_X11_34 rfl dX11_debt_20 ?_
      refine z_bipush (v := 10) b dX11_debt_23 (by decide) ?_
      refine z_iconst (v := 3) b dX11_debt_25 (by decide) ?_
      refine z_iload_n b dX11_debt_26 rfl rfl ?_
      refine z_imul b dX11_debt_27 rfl ?_
      refine z_iadd b dX11_debt_28 rfl ?_
      refine z_iload_n b dX11_debt_29 rfl rfl ?_
      refine z_iadd b dX11_debt_30 rfl ?_
      refine z_iload_n b dX11_debt_31 rfl rfl ?_
      refine z_callv b (z_runV (q0 := 2) (As := [.int (((10 : Int32) + ((3 : Int32) * p0)) + p1), .int p2]) (st := []) b (k_X9_set hrw S4 0 (((10 : Int32) + ((3 : Int32) * p0)) + p1) p2 _ h) cf_X9_set (kw_2 cy a rw S4) rfl wm_X11_77 wi_X9_set ws_X9_set dX11_debt_32 rfl (Nat.le_of_ble_eq_true rfl) ⟨by decide, by decide, Nat.le_of_ble_eq_true rfl, Nat.le_of_ble_eq_true rfl⟩) (fun S6 h => ?_)
      refine z_aload_n b dX11_debt_35 rfl rfl ?_
      refine z_get (q0 := 0) (k9 := 6) (v := .ref (a 38)) b (kw_0 cy a rw S6) rfl in_X11 (by decide) wf_X11_52 rfl dX11_debt_36 ?_
      refine z_callv b (z_runV (q0 := 38) (As := []) (st := []) b (k_X8_forget hrw S6 _ h) cf_X8_forget (kw_38 cy a rw S6) rfl wm_X11_81 wi_X8_forget ws_X8_forget dX11_debt_39 rfl (Nat.le_of_ble_eq_true rfl) ⟨by decide, by decide, Nat.le_of_ble_eq_true rfl, Nat.le_of_ble_eq_true rfl⟩) (fun S8 h => ?_)
      refine z_iconst (v := 1) b dX11_debt_42 (by decide) ?_
      exact z_zret (u := S8) b rfl (by decide) dX11_debt_43 h rfl (by decide) (by decide)
    · replace h := h.2 c1
      refine z_lv0 (lv' := []) [] rfl ?_
      exact z_X11_debt_B17 hrw b _ h

def w_X11_feedFour_B45 (cy : Nat → ClassId) (tE : Nat) (post : KS → Prop) (k3 : KS → Int32 → Int32 → Prop) (k51 : KS → Prop) (S : KS) (x1 : Int32) (x2 : Int32) : Prop :=
  k3 S x1 (x2 + (-8))

set_option maxHeartbeats 200000 in
set_option maxRecDepth 100000 in
theorem z_X11_feedFour_B45 {p : Program} {l : Launch} {e : Env} {R : Room} {s : State} {m : MethodId} {args : Array Value} {below : List Frame} {meth : Method} {c : Code} {D : va_G} {cy : Nat → ClassId} {T0 tB tE : Nat} {A : Nat → Prop} {a : Nat → Nat} {rw : Nat → Option Nat} (hrw : ∀ i, i < 6 → rw i = some (a (12 + 2 * i))) {post : KS → Prop} {k3 : KS → Int32 → Int32 → Prop} {k51 : KS → Prop} (b : Bz p R s m args meth c D cy T0 tB tE A 3 cX11_feedFour RX11 none "feedFour" 0 0 0 0) (hk3 : ∀ (S : KS) (x1 : Int32) (x2 : Int32), k3 S x1 x2 → Z p l e R s m args below meth c D A 3 (MQ below (QV D (U := KS) post (kw cy a rw) A) args s 0 0 A) 0 0 (kw cy a rw S) [(0, .ref (a 0)), (1, .int x1), (2, .int x2)] 3 []) (hk51 : ∀ (S : KS), k51 S → Z p l e R s m args below meth c D A 3 (MQ below (QV D (U := KS) post (kw cy a rw) A) args s 0 0 A) 0 0 (kw cy a rw S) [] 51 []) (S : KS) (x1 : Int32) (x2 : Int32) (h : w_X11_feedFour_B45 cy tE post k3 k51 S x1 x2) : Z p l e R s m args below meth c D A 3 (MQ below (QV D (U := KS) post (kw cy a rw) A) args s 0 0 A) 0 0 (kw cy a rw S) [(0, .ref (a 0)), (1, .int x1), (2, .int x2)] 45 [] := by
  unfold w_X11_feedFour_B45 at h
  refine z_iinc (k9 := 2) (v := (x2 + (-8))) (lv' := [(2, .int (x2 + (-8))), (0, .ref (a 0)), (1, .int x1)]) b dX11_feedFour_45 rfl rfl (by decide) rfl ?_
  refine z_goto (tgt := 3) b dX11_feedFour_48 (by decide) ?_
  refine z_lv0 (lv' := [(0, .ref (a 0)), (1, .int x1), (2, .int (x2 + (-8)))]) [1, 2, 0] rfl ?_
  exact hk3 _ _ _ h

def w_X11_feedFour_F3 (cy : Nat → ClassId) (tE : Nat) (post : KS → Prop) (k51 : KS → Prop) (k3 : KS → Int32 → Int32 → Prop) (S : KS) (x1 : Int32) (x2 : Int32) : Prop :=
  ((x2.toInt < 0 → k51 S) ∧ (0 ≤ x2.toInt → ((700 ≤ (fi S.1 0).toInt → w_X11_feedFour_B45 cy tE post k3 k51 S x1 x2) ∧ ((fi S.1 0).toInt < 700 → (0 ≤ (fi S.1 0).toInt ∧ (fi S.1 0).toInt < 700) ∧ w_X11_feedFour_B45 cy tE post k3 k51 (ksi (ksu S 0 ((fi S.1 0).toNatClampNeg) (((x1).toUInt32 >>> ((x2 : Int32).toUInt32 &&& Int32.toUInt32 31)).toInt32 &&& 255)) 0 ((fi S.1 0) + 1)) x1 x2))))

set_option maxHeartbeats 200000 in
set_option maxRecDepth 100000 in
theorem z_X11_feedFour_F3 {p : Program} {l : Launch} {e : Env} {R : Room} {s : State} {m : MethodId} {args : Array Value} {below : List Frame} {meth : Method} {c : Code} {D : va_G} {cy : Nat → ClassId} {T0 tB tE : Nat} {A : Nat → Prop} {a : Nat → Nat} {rw : Nat → Option Nat} (hrw : ∀ i, i < 6 → rw i = some (a (12 + 2 * i))) {post : KS → Prop} {k51 : KS → Prop} {k3 : KS → Int32 → Int32 → Prop} (b : Bz p R s m args meth c D cy T0 tB tE A 3 cX11_feedFour RX11 none "feedFour" 0 0 0 0) (hk51 : ∀ (S : KS), k51 S → Z p l e R s m args below meth c D A 3 (MQ below (QV D (U := KS) post (kw cy a rw) A) args s 0 0 A) 0 0 (kw cy a rw S) [] 51 []) (hk3 : ∀ (S : KS) (x1 : Int32) (x2 : Int32), k3 S x1 x2 → Z p l e R s m args below meth c D A 3 (MQ below (QV D (U := KS) post (kw cy a rw) A) args s 0 0 A) 0 0 (kw cy a rw S) [(0, .ref (a 0)), (1, .int x1), (2, .int x2)] 3 []) (S : KS) (x1 : Int32) (x2 : Int32) (h : w_X11_feedFour_F3 cy tE post k51 k3 S x1 x2) : Z p l e R s m args below meth c D A 3 (MQ below (QV D (U := KS) post (kw cy a rw) A) args s 0 0 A) 0 0 (kw cy a rw S) [(0, .ref (a 0)), (1, .int x1), (2, .int x2)] 3 [] := by
  unfold w_X11_feedFour_F3 at h
  refine z_iload_n b dX11_feedFour_3 rfl rfl ?_
  refine y_if_lt (tgt := 51) (xl := x2.toInt) b rfl dX11_feedFour_4 (by decide) (fun c1 => ?_) (fun c1 => ?_)
  · replace h := h.1 c1
    refine z_lv0 (lv' := []) [] rfl ?_
    exact hk51 _ h
  · replace h := h.2 c1
    refine z_aload_n b dX11_feedFour_7 rfl rfl ?_
    refine z_get (q0 := 0) (k9 := 1) (v := .int (fi S.1 0)) b (kw_0 cy a rw S) rfl in_X11 (by decide) wf_X11_13 rfl dX11_feedFour_8 ?_
    refine z_aload_n b dX11_feedFour_11 rfl rfl ?_
    refine z_get (q0 := 0) (k9 := 0) (v := .ref (a 1)) b (kw_0 cy a rw S) rfl in_X11 (by decide) wf_X11_9 rfl dX11_feedFour_12 ?_
    refine z_alen (q0 := 1) (t0 := 0) (v := 700) b (kw_1 cy a rw S) rfl rfl dX11_feedFour_15 ?_
    refine y_icmp_ge (tgt := 45) (xl := (fi S.1 0).toInt) (yl := 700) b rfl (by decide) dX11_feedFour_16 (by decide) (fun c1 => ?_) (fun c1 => ?_)
    · replace h := h.1 c1
      exact z_X11_feedFour_B45 hrw b hk3 hk51 _ _ _ h
    · replace h := h.2 c1
      refine z_aload_n b dX11_feedFour_19 rfl rfl ?_
      refine z_get (q0 := 0) (k9 := 0) (v := .ref (a 1)) b (kw_0 cy a rw S) rfl in_X11 (by decide) wf_X11_9 rfl dX11_feedFour_20 ?_
      refine z_aload_n b dX11_feedFour_23 rfl rfl ?_
      refine z_get (q0 := 0) (k9 := 1) (v := .int (fi S.1 0)) b (kw_0 cy a rw S) rfl in_X11 (by decide) wf_X11_13 rfl dX11_feedFour_24 ?_
      refine z_iload_n b dX11_feedFour_27 rfl rfl ?_
      refine z_iload_n b dX11_feedFour_28 rfl rfl ?_
      refine z_iushr b dX11_feedFour_29 rfl ?_
      refine z_sipush (v := 255) b dX11_feedFour_30 (by decide) ?_
      refine z_iand b dX11_feedFour_33 rfl ?_
      obtain ⟨g1, h⟩ := h
      refine y_iast (q0 := 1) (j := (fi S.1 0).toNatClampNeg) b (kw_1 cy a rw S) (zx_r g1.1 g1.2) dX11_feedFour_34 (kwa_1 cy a rw S ((fi S.1 0).toNatClampNeg) (((x1).toUInt32 >>> ((x2 : Int32).toUInt32 &&& Int32.toUInt32 31)).toInt32 &&& 255)) ?_
      refine z_aload_n b dX11_feedFour_35 rfl rfl ?_
      refine z_dup b dX11_feedFour_36 rfl ?_
      refine z_get (q0 := 0) (k9 := 1) (v := .int (fi S.1 0)) b (kw_0 cy a rw (ksu S 0 ((fi S.1 0).toNatClampNeg) (((x1).toUInt32 >>> ((x2 : Int32).toUInt32 &&& Int32.toUInt32 31)).toInt32 &&& 255))) rfl in_X11 (by decide) wf_X11_13 rfl dX11_feedFour_37 ?_
      refine z_iconst (v := 1) b dX11_feedFour_40 (by decide) ?_
      refine z_iadd b dX11_feedFour_41 rfl ?_
      refine z_put (q0 := 0) (k9 := 1) tyX11 b (kw_0 cy a rw (ksu S 0 ((fi S.1 0).toNatClampNeg) (((x1).toUInt32 >>> ((x2 : Int32).toUInt32 &&& Int32.toUInt32 31)).toInt32 &&& 255))) rfl in_X11 tyX11_ok nmX11 (by decide) wf_X11_13 rfl rfl rfl rfl (Nat.le_of_ble_eq_true rfl) dX11_feedFour_42 (kwp_0_1 cy a rw (ksu S 0 ((fi S.1 0).toNatClampNeg) (((x1).toUInt32 >>> ((x2 : Int32).toUInt32 &&& Int32.toUInt32 31)).toInt32 &&& 255)) ((fi S.1 0) + 1)) ?_
      exact z_X11_feedFour_B45 hrw b hk3 hk51 _ _ _ h

set_option maxHeartbeats 200000 in
set_option maxRecDepth 100000 in
theorem zl_X11_feedFour_L3 {p : Program} {l : Launch} {e : Env} {R : Room} {s : State} {m : MethodId} {args : Array Value} {below : List Frame} {meth : Method} {c : Code} {D : va_G} {cy : Nat → ClassId} {T0 tB tE : Nat} {A : Nat → Prop} {a : Nat → Nat} {rw : Nat → Option Nat} (hrw : ∀ i, i < 6 → rw i = some (a (12 + 2 * i))) {post : KS → Prop} {k51 : KS → Prop} (b : Bz p R s m args meth c D cy T0 tB tE A 3 cX11_feedFour RX11 none "feedFour" 0 0 0 0) (hk51 : ∀ (S : KS), k51 S → Z p l e R s m args below meth c D A 3 (MQ below (QV D (U := KS) post (kw cy a rw) A) args s 0 0 A) 0 0 (kw cy a rw S) [] 51 []) : ∀ (n : Nat) (S : KS) (x1 : Int32) (x2 : Int32), lpn (w_X11_feedFour_F3 cy tE post k51) (fun _ _ _ => False) n S x1 x2 → Z p l e R s m args below meth c D A 3 (MQ below (QV D (U := KS) post (kw cy a rw) A) args s 0 0 A) 0 0 (kw cy a rw S) [(0, .ref (a 0)), (1, .int x1), (2, .int x2)] 3 [] := by
  intro n
  induction n with
  | zero => intro _ _ _ h; exact h.elim
  | succ n ih => intro S x1 x2 h; exact z_X11_feedFour_F3 hrw b hk51 ih S x1 x2 h

def w_X11_feedFour_B51 (cy : Nat → ClassId) (tE : Nat) (post : KS → Prop) (S : KS)  : Prop :=
  post S

set_option maxHeartbeats 200000 in
set_option maxRecDepth 100000 in
theorem z_X11_feedFour_B51 {p : Program} {l : Launch} {e : Env} {R : Room} {s : State} {m : MethodId} {args : Array Value} {below : List Frame} {meth : Method} {c : Code} {D : va_G} {cy : Nat → ClassId} {T0 tB tE : Nat} {A : Nat → Prop} {a : Nat → Nat} {rw : Nat → Option Nat} (hrw : ∀ i, i < 6 → rw i = some (a (12 + 2 * i))) {post : KS → Prop} (b : Bz p R s m args meth c D cy T0 tB tE A 3 cX11_feedFour RX11 none "feedFour" 0 0 0 0) (S : KS)  (h : w_X11_feedFour_B51 cy tE post S ) : Z p l e R s m args below meth c D A 3 (MQ below (QV D (U := KS) post (kw cy a rw) A) args s 0 0 A) 0 0 (kw cy a rw S) [] 51 [] := by
  unfold w_X11_feedFour_B51 at h
  exact z_vret (u := S) b rfl dX11_feedFour_51 h rfl (by decide) (by decide)

def w_X11_feedFour (cy : Nat → ClassId) (tE : Nat) (S : KS) (p0 : Int32) (post : KS → Prop) : Prop :=
  ∃ n, lpn (w_X11_feedFour_F3 cy tE post (w_X11_feedFour_B51 cy tE post)) (fun _ _ _ => False) n S p0 24

set_option maxHeartbeats 200000 in
set_option maxRecDepth 100000 in
theorem k_X11_feedFour {l : Launch} {D : va_G} {cy : Nat → ClassId} {T0 tB tE : Nat} {a : Nat → Nat} {rw : Nat → Option Nat} (hrw : ∀ i, i < 6 → rw i = some (a (12 + 2 * i))) (S : KS) (p0 : Int32) (post : KS → Prop) (h : w_X11_feedFour cy tE S p0 post) : Ct l D cy T0 tB tE yX11_feedFour cX11_feedFour 3 none 0 0 0 0 (kw cy a rw S) [.ref (a 0), .int p0] (QV D (U := KS) post (kw cy a rw)) := by
  refine Ct.ofZ RX11 "feedFour" [(0, .ref (a 0)), (1, .int p0)] rfl rfl rfl rfl (Nat.le_of_ble_eq_true rfl) ?_
  intro p e R s m args below meth c A b
  unfold w_X11_feedFour at h
  refine z_bipush (v := 24) b dX11_feedFour_0 (by decide) ?_
  refine z_istore_n (lv' := [(2, .int 24), (0, .ref (a 0)), (1, .int p0)]) b dX11_feedFour_2 rfl (by decide) rfl ?_
  refine z_lv0 (lv' := [(0, .ref (a 0)), (1, .int p0), (2, .int 24)]) [1, 2, 0] rfl ?_
  obtain ⟨n, h⟩ := h
  exact zl_X11_feedFour_L3 hrw b (fun S h => z_X11_feedFour_B51 hrw b _ h) n _ _ _ h

def w_X11_feed (cy : Nat → ClassId) (tE : Nat) (S : KS) (p0 : Int32) (p1 : Int32) (p2 : Int32) (p3 : Int32) (p4 : Int32) (post : Int32 → KS → Prop) : Prop :=
  ((((fi S.1 0) + 20).toInt ≤ 700 → w_X11_feedFour cy tE S p0 (fun S2 => w_X11_feedFour cy tE S2 p1 (fun S4 => w_X11_feedFour cy tE S4 p2 (fun S6 => w_X11_feedFour cy tE S6 p3 (fun S8 => w_X11_feedFour cy tE S8 p4 (fun S10 => post (fi S10.1 0) S10)))))) ∧ (700 < ((fi S.1 0) + 20).toInt → post (-1) S))

set_option maxHeartbeats 200000 in
set_option maxRecDepth 100000 in
theorem k_X11_feed {l : Launch} {D : va_G} {cy : Nat → ClassId} {T0 tB tE : Nat} {a : Nat → Nat} {rw : Nat → Option Nat} (hrw : ∀ i, i < 6 → rw i = some (a (12 + 2 * i))) (S : KS) (p0 : Int32) (p1 : Int32) (p2 : Int32) (p3 : Int32) (p4 : Int32) (post : Int32 → KS → Prop) (h : w_X11_feed cy tE S p0 p1 p2 p3 p4 post) : Ct l D cy T0 tB tE yX11_feed cX11_feed 6 (some .int) 1 22 0 0 (kw cy a rw S) [.ref (a 0), .int p0, .int p1, .int p2, .int p3, .int p4] (QI D (U := KS) post (kw cy a rw)) := by
  refine Ct.ofZ RX11 "feed" [(0, .ref (a 0)), (1, .int p0), (2, .int p1), (3, .int p2), (4, .int p3), (5, .int p4)] rfl rfl rfl rfl (Nat.le_of_ble_eq_true rfl) ?_
  intro p e R s m args below meth c A b
  unfold w_X11_feed at h
  refine z_aload_n b dX11_feed_0 rfl rfl ?_
  refine z_get (q0 := 0) (k9 := 1) (v := .int (fi S.1 0)) b (kw_0 cy a rw S) rfl in_X11 (by decide) wf_X11_13 rfl dX11_feed_1 ?_
  refine z_bipush (v := 20) b dX11_feed_4 (by decide) ?_
  refine z_iadd b dX11_feed_6 rfl ?_
  refine z_sipush (v := 700) b dX11_feed_7 (by decide) ?_
  refine y_icmp_le (tgt := 15) (xl := ((fi S.1 0) + 20).toInt) (yl := 700) b rfl (by decide) dX11_feed_10 (by decide) (fun c1 => ?_) (fun c1 => ?_)
  · replace h := h.1 c1
    refine z_aload_n b dX11_feed_15 rfl rfl ?_
    refine z_iload_n b dX11_feed_16 rfl rfl ?_
    refine z_callv b (z_runV (q0 := 0) (As := [.int p0]) (st := []) b (k_X11_feedFour hrw S p0 _ h) cf_X11_feedFour (kw_0 cy a rw S) rfl wm_X11_90 wi_X11_feedFour ws_X11_feedFour dX11_feed_17 rfl (Nat.le_of_ble_eq_true rfl) ⟨by decide, by decide, Nat.le_of_ble_eq_true rfl, Nat.le_of_ble_eq_true rfl⟩) (fun S2 h => ?_)
    refine z_aload_n b dX11_feed_20 rfl rfl ?_
    refine z_iload_n b dX11_feed_21 rfl rfl ?_
    refine z_callv b (z_runV (q0 := 0) (As := [.int p1]) (st := []) b (k_X11_feedFour hrw S2 p1 _ h) cf_X11_feedFour (kw_0 cy a rw S2) rfl wm_X11_90 wi_X11_feedFour ws_X11_feedFour dX11_feed_22 rfl (Nat.le_of_ble_eq_true rfl) ⟨by decide, by decide, Nat.le_of_ble_eq_true rfl, Nat.le_of_ble_eq_true rfl⟩) (fun S4 h => ?_)
    refine z_aload_n b dX11_feed_25 rfl rfl ?_
    refine z_iload_n b dX11_feed_26 rfl rfl ?_
    refine z_callv b (z_runV (q0 := 0) (As := [.int p2]) (st := []) b (k_X11_feedFour hrw S4 p2 _ h) cf_X11_feedFour (kw_0 cy a rw S4) rfl wm_X11_90 wi_X11_feedFour ws_X11_feedFour dX11_feed_27 rfl (Nat.le_of_ble_eq_true rfl) ⟨by decide, by decide, Nat.le_of_ble_eq_true rfl, Nat.le_of_ble_eq_true rfl⟩) (fun S6 h => ?_)
    refine z_aload_n b dX11_feed_30 rfl rfl ?_
    refine z_iload b dX11_feed_31 rfl ?_
    refine z_callv b (z_runV (q0 := 0) (As := [.int p3]) (st := []) b (k_X11_feedFour hrw S6 p3 _ h) cf_X11_feedFour (kw_0 cy a rw S6) rfl wm_X11_90 wi_X11_feedFour ws_X11_feedFour dX11_feed_33 rfl (Nat.le_of_ble_eq_true rfl) ⟨by decide, by decide, Nat.le_of_ble_eq_true rfl, Nat.le_of_ble_eq_true rfl⟩) (fun S8 h => ?_)
    refine z_aload_n b dX11_feed_36 rfl rfl ?_
    refine z_iload b dX11_feed_37 rfl ?_
    refine z_callv b (z_runV (q0 := 0) (As := [.int p4]) (st := []) b (k_X11_feedFour hrw S8 p4 _ h) cf_X11_feedFour (kw_0 cy a rw S8) rfl wm_X11_90 wi_X11_feedFour ws_X11_feedFour dX11_feed_39 rfl (Nat.le_of_ble_eq_true rfl) ⟨by decide, by decide, Nat.le_of_ble_eq_true rfl, Nat.le_of_ble_eq_true rfl⟩) (fun S10 h => ?_)
    refine z_aload_n b dX11_feed_42 rfl rfl ?_
    refine z_get (q0 := 0) (k9 := 1) (v := .int (fi S10.1 0)) b (kw_0 cy a rw S10) rfl in_X11 (by decide) wf_X11_13 rfl dX11_feed_43 ?_
    exact z_iret (u := S10) b rfl dX11_feed_46 h rfl (by decide) (by decide)
  · replace h := h.2 c1
    refine z_iconst (v := (-1)) b dX11_feed_13 (by decide) ?_
    exact z_iret (u := S) b rfl dX11_feed_14 h rfl (by decide) (by decide)

def w_X9_has_B23 (cy : Nat → ClassId) (tE : Nat) (post : Int32 → KS → Prop) (S : KS)  : Prop :=
  post 1 S

set_option maxHeartbeats 200000 in
set_option maxRecDepth 100000 in
theorem z_X9_has_B23 {p : Program} {l : Launch} {e : Env} {R : Room} {s : State} {m : MethodId} {args : Array Value} {below : List Frame} {meth : Method} {c : Code} {D : va_G} {cy : Nat → ClassId} {T0 tB tE : Nat} {A : Nat → Prop} {a : Nat → Nat} {rw : Nat → Option Nat} (hrw : ∀ i, i < 6 → rw i = some (a (12 + 2 * i))) {post : Int32 → KS → Prop} (b : Bz p R s m args meth c D cy T0 tB tE A 2 cX9_has RX9 (some .boolean) "has" 2 41 0 0) (S : KS)  (h : w_X9_has_B23 cy tE post S ) : Z p l e R s m args below meth c D A 2 (MQ below (QI D (U := KS) post (kw cy a rw) A) args s 0 0 A) 0 0 (kw cy a rw S) [] 23 [] := by
  unfold w_X9_has_B23 at h
  refine z_iconst (v := 1) b dX9_has_23 (by decide) ?_
  exact z_zret (u := S) b rfl (by decide) dX9_has_24 h rfl (by decide) (by decide)

def w_X9_has_B37 (cy : Nat → ClassId) (tE : Nat) (post : Int32 → KS → Prop) (S : KS)  : Prop :=
  post 0 S

set_option maxHeartbeats 200000 in
set_option maxRecDepth 100000 in
theorem z_X9_has_B37 {p : Program} {l : Launch} {e : Env} {R : Room} {s : State} {m : MethodId} {args : Array Value} {below : List Frame} {meth : Method} {c : Code} {D : va_G} {cy : Nat → ClassId} {T0 tB tE : Nat} {A : Nat → Prop} {a : Nat → Nat} {rw : Nat → Option Nat} (hrw : ∀ i, i < 6 → rw i = some (a (12 + 2 * i))) {post : Int32 → KS → Prop} (b : Bz p R s m args meth c D cy T0 tB tE A 2 cX9_has RX9 (some .boolean) "has" 2 41 0 0) (S : KS)  (h : w_X9_has_B37 cy tE post S ) : Z p l e R s m args below meth c D A 2 (MQ below (QI D (U := KS) post (kw cy a rw) A) args s 0 0 A) 0 0 (kw cy a rw S) [] 37 [] := by
  unfold w_X9_has_B37 at h
  refine z_iconst (v := 0) b dX9_has_37 (by decide) ?_
  exact z_zret (u := S) b rfl (by decide) dX9_has_38 h rfl (by decide) (by decide)

def w_X9_has (cy : Nat → ClassId) (tE : Nat) (S : KS) (p0 : Int32) (post : Int32 → KS → Prop) : Prop :=
  w_X11_isPerson cy tE S p0 (fun r1 S2 => ((r1.toInt ≠ 0 → w_X9_has_B23 cy tE post S2) ∧ (r1.toInt = 0 → w_X11_isThing cy tE S2 (p0 - 40) (fun r3 S4 => ((r3.toInt ≠ 0 → w_X9_has_B23 cy tE post S4) ∧ (r3.toInt = 0 → ((p0.toInt ≠ 50 → ((p0.toInt < 10 → w_X9_has_B37 cy tE post S4) ∧ (10 ≤ p0.toInt → ((p0.toInt < 40 → w_X11_arePair cy tE S4 ((p0 - p0 / 10 * 10) / 3) ((p0 - p0 / 10 * 10) - (p0 - p0 / 10 * 10) / 3 * 3) (fun r5 S6 => (r5 = 0 ∨ r5 = 1) ∧ post r5 S6)) ∧ (40 ≤ p0.toInt → w_X9_has_B37 cy tE post S4))))) ∧ (p0.toInt = 50 → w_X9_has_B23 cy tE post S4))))))))

set_option maxHeartbeats 200000 in
set_option maxRecDepth 100000 in
theorem k_X9_has {l : Launch} {D : va_G} {cy : Nat → ClassId} {T0 tB tE : Nat} {a : Nat → Nat} {rw : Nat → Option Nat} (hrw : ∀ i, i < 6 → rw i = some (a (12 + 2 * i))) (S : KS) (p0 : Int32) (post : Int32 → KS → Prop) (h : w_X9_has cy tE S p0 post) : Ct l D cy T0 tB tE yX9_has cX9_has 2 (some .boolean) 2 41 0 0 (kw cy a rw S) [.int p0] (QI D (U := KS) post (kw cy a rw)) := by
  refine Ct.ofZ RX9 "has" [(0, .int p0)] rfl rfl rfl rfl (Nat.le_of_ble_eq_true rfl) ?_
  intro p e R s m args below meth c A b
  unfold w_X9_has at h
  refine z_iload_n b dX9_has_0 rfl rfl ?_
  refine z_calli b (z_runSN (As := [.int p0]) (st := []) b (k_X11_isPerson hrw S p0 _ h) cf_X11_isPerson (nw_X9_15) ws_X11_isPerson dX9_has_1 rfl (Nat.le_of_ble_eq_true rfl) ⟨by decide, by decide, Nat.le_of_ble_eq_true rfl, Nat.le_of_ble_eq_true rfl⟩) (fun r1 S2 h => ?_)
  refine y_if_ne (tgt := 23) (xl := r1.toInt) b rfl dX9_has_4 (by decide) (fun c1 => ?_) (fun c1 => ?_)
  · replace h := h.1 c1
    refine z_lv0 (lv' := []) [] rfl ?_
    exact z_X9_has_B23 hrw b _ h
  · replace h := h.2 c1
    refine z_iload_n b dX9_has_7 rfl rfl ?_
    refine z_bipush (v := 40) b dX9_has_8 (by decide) ?_
    refine z_isub b dX9_has_10 rfl ?_
    refine z_calli b (z_runSN (As := [.int (p0 - 40)]) (st := []) b (k_X11_isThing hrw S2 (p0 - 40) _ h) cf_X11_isThing (nw_X9_19) ws_X11_isThing dX9_has_11 rfl (Nat.le_of_ble_eq_true rfl) ⟨by decide, by decide, Nat.le_of_ble_eq_true rfl, Nat.le_of_ble_eq_true rfl⟩) (fun r3 S4 h => ?_)
    refine y_if_ne (tgt := 23) (xl := r3.toInt) b rfl dX9_has_14 (by decide) (fun c1 => ?_) (fun c1 => ?_)
    · replace h := h.1 c1
      refine z_lv0 (lv' := []) [] rfl ?_
      exact z_X9_has_B23 hrw b _ h
    · replace h := h.2 c1
      refine z_iload_n b dX9_has_17 rfl rfl ?_
      refine z_bipush (v := 50) b dX9_has_18 (by decide) ?_
      refine y_icmp_ne (tgt := 25) (xl := p0.toInt) (yl := 50) b rfl (by decide) dX9_has_20 (by decide) (fun c1 => ?_) (fun c1 => ?_)
      · replace h := h.1 c1
        refine z_iload_n b dX9_has_25 rfl rfl ?_
        refine z_bipush (v := 10) b dX9_has_26 (by decide) ?_
        refine y_icmp_lt (tgt := 37) (xl := p0.toInt) (yl := 10) b rfl (by decide) dX9_has_28 (by decide) (fun c1 => ?_) (fun c1 => ?_)
        · replace h := h.1 c1
          refine z_lv0 (lv' := []) [] rfl ?_
          exact z_X9_has_B37 hrw b _ h
        · replace h := h.2 c1
          refine z_iload_n b dX9_has_31 rfl rfl ?_
          refine z_bipush (v := 40) b dX9_has_32 (by decide) ?_
          refine y_icmp_lt (tgt := 39) (xl := p0.toInt) (yl := 40) b rfl (by decide) dX9_has_34 (by decide) (fun c1 => ?_) (fun c1 => ?_)
          · replace h := h.1 c1
            refine z_iload_n b dX9_has_39 rfl rfl ?_
            refine z_bipush (v := 10) b dX9_has_40 (by decide) ?_
            refine z_irem b dX9_has_42 (by decide) rfl ?_
            refine z_istore_n (lv' := [(1, .int (p0 - p0 / 10 * 10)), (0, .int p0)]) b dX9_has_43 rfl (by decide) rfl ?_
            refine z_iload_n b dX9_has_44 rfl rfl ?_
            refine z_iconst (v := 3) b dX9_has_45 (by decide) ?_
            refine z_idiv b dX9_has_46 (by decide) rfl ?_
            refine z_iload_n b dX9_has_47 rfl rfl ?_
            refine z_iconst (v := 3) b dX9_has_48 (by decide) ?_
            refine z_irem b dX9_has_49 (by decide) rfl ?_
            refine z_calli b (z_runSN (As := [.int ((p0 - p0 / 10 * 10) / 3), .int ((p0 - p0 / 10 * 10) - (p0 - p0 / 10 * 10) / 3 * 3)]) (st := []) b (k_X11_arePair hrw S4 ((p0 - p0 / 10 * 10) / 3) ((p0 - p0 / 10 * 10) - (p0 - p0 / 10 * 10) / 3 * 3) _ h) cf_X11_arePair (nw_X9_22) ws_X11_arePair dX9_has_50 rfl (Nat.le_of_ble_eq_true rfl) ⟨by decide, by decide, Nat.le_of_ble_eq_true rfl, Nat.le_of_ble_eq_true rfl⟩) (fun r5 S6 h => ?_)
            obtain ⟨g7, h⟩ := h
            exact z_zret (u := S6) b rfl (z_bool g7) dX9_has_53 h rfl (by decide) (by decide)
          · replace h := h.2 c1
            refine z_lv0 (lv' := []) [] rfl ?_
            exact z_X9_has_B37 hrw b _ h
      · replace h := h.2 c1
        refine z_lv0 (lv' := []) [] rfl ?_
        exact z_X9_has_B23 hrw b _ h

def w_X2_follow_F16 (cy : Nat → ClassId) (tE : Nat) (post : Int32 → KS → Prop) (k74 : KS → Nat → Prop) (k16 : KS → Nat → Int32 → Int32 → Int32 → Prop) (S : KS) (x1 : Nat) (x3 : Int32) (x4 : Int32) (x5 : Int32) : Prop :=
  (x1 < 7) ∧ (((fi S.1 (1 + 2 * x1)).toInt ≤ x5.toInt → k74 S x1) ∧ (x5.toInt < (fi S.1 (1 + 2 * x1)).toInt → (x1 < 7) ∧ w_X7_get cy tE S x1 x5 (fun r5 S6 => w_X2_why cy tE S6 3 r5 x3 x4 (fun r7 S8 => ((r7.toInt = (-1) → w_X9_copy cy tE (ksi S8 22 r7) 3 2 (fun S10 => k16 S10 x1 x3 x4 (x5 + 1))) ∧ (r7.toInt ≠ (-1) → post x5 (ksi S8 22 r7)))))))

set_option maxHeartbeats 200000 in
set_option maxRecDepth 100000 in
theorem z_X2_follow_F16 {p : Program} {l : Launch} {e : Env} {R : Room} {s : State} {m : MethodId} {args : Array Value} {below : List Frame} {meth : Method} {c : Code} {D : va_G} {cy : Nat → ClassId} {T0 tB tE : Nat} {A : Nat → Prop} {a : Nat → Nat} {rw : Nat → Option Nat} (hrw : ∀ i, i < 6 → rw i = some (a (12 + 2 * i))) {post : Int32 → KS → Prop} {k74 : KS → Nat → Prop} {k16 : KS → Nat → Int32 → Int32 → Int32 → Prop} (b : Bz p R s m args meth c D cy T0 tB tE A 6 cX2_follow RX2 (some .int) "follow" 4 101 0 0) (hk74 : ∀ (S : KS) (x1 : Nat), k74 S x1 → Z p l e R s m args below meth c D A 6 (MQ below (QI D (U := KS) post (kw cy a rw) A) args s 0 0 A) 0 0 (kw cy a rw S) [(1, .ref (a (12 + 2 * x1)))] 74 []) (hk16 : ∀ (S : KS) (x1 : Nat) (x3 : Int32) (x4 : Int32) (x5 : Int32), k16 S x1 x3 x4 x5 → Z p l e R s m args below meth c D A 6 (MQ below (QI D (U := KS) post (kw cy a rw) A) args s 0 0 A) 0 0 (kw cy a rw S) [(0, .ref (a 35)), (1, .ref (a (12 + 2 * x1))), (3, .int x3), (4, .int x4), (5, .int x5)] 16 []) (S : KS) (x1 : Nat) (x3 : Int32) (x4 : Int32) (x5 : Int32) (h : w_X2_follow_F16 cy tE post k74 k16 S x1 x3 x4 x5) : Z p l e R s m args below meth c D A 6 (MQ below (QI D (U := KS) post (kw cy a rw) A) args s 0 0 A) 0 0 (kw cy a rw S) [(0, .ref (a 35)), (1, .ref (a (12 + 2 * x1))), (3, .int x3), (4, .int x4), (5, .int x5)] 16 [] := by
  unfold w_X2_follow_F16 at h
  refine z_iload b dX2_follow_16 rfl ?_
  refine z_aload_n b dX2_follow_18 rfl rfl ?_
  obtain ⟨g3, h⟩ := h
  refine z_get (q0 := 12 + 2 * x1) (k9 := 1) (v := .int (fi S.1 (1 + 2 * x1))) b (kw_ro cy a rw S g3) rfl in_X7 (by decide) wf_X2_108 rfl dX2_follow_19 ?_
  refine y_icmp_ge (tgt := 74) (xl := x5.toInt) (yl := (fi S.1 (1 + 2 * x1)).toInt) b rfl rfl dX2_follow_22 (by decide) (fun c1 => ?_) (fun c1 => ?_)
  · replace h := h.1 c1
    refine z_lv0 (lv' := [(1, .ref (a (12 + 2 * x1)))]) [1] rfl ?_
    exact hk74 _ _ h
  · replace h := h.2 c1
    refine z_aload_n b dX2_follow_25 rfl rfl ?_
    refine z_aload_n b dX2_follow_26 rfl rfl ?_
    refine z_aload_n b dX2_follow_27 rfl rfl ?_
    refine z_get (q0 := 35) (k9 := 3) (v := .ref (a 8)) b (kw_35 cy a rw S) rfl in_X2 (by decide) wf_X2_25 rfl dX2_follow_28 ?_
    refine z_aload_n b dX2_follow_31 rfl rfl ?_
    refine z_iload b dX2_follow_32 rfl ?_
    obtain ⟨g4, h⟩ := h
    refine z_calli b (z_runV (q0 := 12 + 2 * x1) (As := [.int x5]) (st := [.ref (a 8), .ref (a 35), .ref (a 35)]) b (k_X7_get hrw S x1 x5 _ h) cf_X7_get (kw_ro cy a rw S g4) rfl wm_X2_113 wi_X7_get ws_X7_get dX2_follow_34 rfl (Nat.le_of_ble_eq_true rfl) ⟨by decide, by decide, Nat.le_of_ble_eq_true rfl, Nat.le_of_ble_eq_true rfl⟩) (fun r5 S6 h => ?_)
    refine z_iload_n b dX2_follow_37 rfl rfl ?_
    refine z_iload b dX2_follow_38 rfl ?_
    refine z_calli b (z_runV (q0 := 35) (As := [.ref (a 8), .int r5, .int x3, .int x4]) (st := [.ref (a 35)]) b (k_X2_why hrw S6 3 r5 x3 x4 _ h) cf_X2_why (kw_35 cy a rw S6) rfl wm_X2_115 wi_X2_why ws_X2_why dX2_follow_40 rfl (Nat.le_of_ble_eq_true rfl) ⟨by decide, by decide, Nat.le_of_ble_eq_true rfl, Nat.le_of_ble_eq_true rfl⟩) (fun r7 S8 h => ?_)
    refine z_put (q0 := 35) (k9 := 4) tyX2 b (kw_35 cy a rw S8) rfl in_X2 tyX2_ok nmX2 (by decide) wf_X2_28 rfl rfl rfl rfl (Nat.le_of_ble_eq_true rfl) dX2_follow_43 (kwp_35_4 cy a rw S8 r7) ?_
    refine z_aload_n b dX2_follow_46 rfl rfl ?_
    refine z_get (q0 := 35) (k9 := 4) (v := .int r7) b (kw_35 cy a rw (ksi S8 22 r7)) rfl in_X2 (by decide) wf_X2_28 rfl dX2_follow_47 ?_
    refine z_iconst (v := (-1)) b dX2_follow_50 (by decide) ?_
    refine y_icmp_eq (tgt := 57) (xl := r7.toInt) (yl := (-1)) b rfl (by decide) dX2_follow_51 (by decide) (fun c1 => ?_) (fun c1 => ?_)
    · replace h := h.1 c1
      refine z_aload_n b dX2_follow_57 rfl rfl ?_
      refine z_get (q0 := 35) (k9 := 3) (v := .ref (a 8)) b (kw_35 cy a rw (ksi S8 22 r7)) rfl in_X2 (by decide) wf_X2_25 rfl dX2_follow_58 ?_
      refine z_aload_n b dX2_follow_61 rfl rfl ?_
      refine z_get (q0 := 35) (k9 := 2) (v := .ref (a 6)) b (kw_35 cy a rw (ksi S8 22 r7)) rfl in_X2 (by decide) wf_X2_21 rfl dX2_follow_62 ?_
      refine z_callv b (z_runV (q0 := 8) (As := [.ref (a 6)]) (st := []) b (k_X9_copy hrw (ksi S8 22 r7) 3 2 _ h) cf_X9_copy (kw_8 cy a rw (ksi S8 22 r7)) rfl wm_X2_80 wi_X9_copy ws_X9_copy dX2_follow_65 rfl (Nat.le_of_ble_eq_true rfl) ⟨by decide, by decide, Nat.le_of_ble_eq_true rfl, Nat.le_of_ble_eq_true rfl⟩) (fun S10 h => ?_)
      refine z_iinc (k9 := 4) (v := (x5 + 1)) (lv' := [(5, .int (x5 + 1)), (0, .ref (a 35)), (1, .ref (a (12 + 2 * x1))), (3, .int x3), (4, .int x4)]) b dX2_follow_68 rfl rfl (by decide) rfl ?_
      refine z_goto (tgt := 16) b dX2_follow_71 (by decide) ?_
      refine z_lv0 (lv' := [(0, .ref (a 35)), (1, .ref (a (12 + 2 * x1))), (3, .int x3), (4, .int x4), (5, .int (x5 + 1))]) [1, 2, 3, 4, 0] rfl ?_
      exact hk16 _ _ _ _ _ h
    · replace h := h.2 c1
      refine z_iload b dX2_follow_54 rfl ?_
      exact z_iret (u := (ksi S8 22 r7)) b rfl dX2_follow_56 h rfl (by decide) (by decide)

set_option maxHeartbeats 200000 in
set_option maxRecDepth 100000 in
theorem zl_X2_follow_L16 {p : Program} {l : Launch} {e : Env} {R : Room} {s : State} {m : MethodId} {args : Array Value} {below : List Frame} {meth : Method} {c : Code} {D : va_G} {cy : Nat → ClassId} {T0 tB tE : Nat} {A : Nat → Prop} {a : Nat → Nat} {rw : Nat → Option Nat} (hrw : ∀ i, i < 6 → rw i = some (a (12 + 2 * i))) {post : Int32 → KS → Prop} {k74 : KS → Nat → Prop} (b : Bz p R s m args meth c D cy T0 tB tE A 6 cX2_follow RX2 (some .int) "follow" 4 101 0 0) (hk74 : ∀ (S : KS) (x1 : Nat), k74 S x1 → Z p l e R s m args below meth c D A 6 (MQ below (QI D (U := KS) post (kw cy a rw) A) args s 0 0 A) 0 0 (kw cy a rw S) [(1, .ref (a (12 + 2 * x1)))] 74 []) : ∀ (n : Nat) (S : KS) (x1 : Nat) (x3 : Int32) (x4 : Int32) (x5 : Int32), lpn (w_X2_follow_F16 cy tE post k74) (fun _ _ _ _ _ => False) n S x1 x3 x4 x5 → Z p l e R s m args below meth c D A 6 (MQ below (QI D (U := KS) post (kw cy a rw) A) args s 0 0 A) 0 0 (kw cy a rw S) [(0, .ref (a 35)), (1, .ref (a (12 + 2 * x1))), (3, .int x3), (4, .int x4), (5, .int x5)] 16 [] := by
  intro n
  induction n with
  | zero => intro _ _ _ _ _ h; exact h.elim
  | succ n ih => intro S x1 x3 x4 x5 h; exact z_X2_follow_F16 hrw b hk74 ih S x1 x3 x4 x5 h

def w_X2_follow_B74 (cy : Nat → ClassId) (tE : Nat) (post : Int32 → KS → Prop) (S : KS) (x1 : Nat) : Prop :=
  (x1 < 7) ∧ post (fi S.1 (1 + 2 * x1)) S

set_option maxHeartbeats 200000 in
set_option maxRecDepth 100000 in
theorem z_X2_follow_B74 {p : Program} {l : Launch} {e : Env} {R : Room} {s : State} {m : MethodId} {args : Array Value} {below : List Frame} {meth : Method} {c : Code} {D : va_G} {cy : Nat → ClassId} {T0 tB tE : Nat} {A : Nat → Prop} {a : Nat → Nat} {rw : Nat → Option Nat} (hrw : ∀ i, i < 6 → rw i = some (a (12 + 2 * i))) {post : Int32 → KS → Prop} (b : Bz p R s m args meth c D cy T0 tB tE A 6 cX2_follow RX2 (some .int) "follow" 4 101 0 0) (S : KS) (x1 : Nat) (h : w_X2_follow_B74 cy tE post S x1) : Z p l e R s m args below meth c D A 6 (MQ below (QI D (U := KS) post (kw cy a rw) A) args s 0 0 A) 0 0 (kw cy a rw S) [(1, .ref (a (12 + 2 * x1)))] 74 [] := by
  unfold w_X2_follow_B74 at h
  refine z_aload_n b dX2_follow_74 rfl rfl ?_
  obtain ⟨g11, h⟩ := h
  refine z_get (q0 := 12 + 2 * x1) (k9 := 1) (v := .int (fi S.1 (1 + 2 * x1))) b (kw_ro cy a rw S g11) rfl in_X7 (by decide) wf_X2_108 rfl dX2_follow_75 ?_
  exact z_iret (u := S) b rfl dX2_follow_78 h rfl (by decide) (by decide)

def w_X2_follow (cy : Nat → ClassId) (tE : Nat) (S : KS) (p0 : Nat) (p1 : Nat) (p2 : Int32) (p3 : Int32) (post : Int32 → KS → Prop) : Prop :=
  w_X9_copy cy tE S 3 p1 (fun S2 => ∃ n, lpn (w_X2_follow_F16 cy tE post (w_X2_follow_B74 cy tE post)) (fun _ _ _ _ _ => False) n (ksi S2 22 (-1)) p0 p2 p3 0)

set_option maxHeartbeats 200000 in
set_option maxRecDepth 100000 in
theorem k_X2_follow {l : Launch} {D : va_G} {cy : Nat → ClassId} {T0 tB tE : Nat} {a : Nat → Nat} {rw : Nat → Option Nat} (hrw : ∀ i, i < 6 → rw i = some (a (12 + 2 * i))) (S : KS) (p0 : Nat) (p1 : Nat) (p2 : Int32) (p3 : Int32) (post : Int32 → KS → Prop) (h : w_X2_follow cy tE S p0 p1 p2 p3 post) : Ct l D cy T0 tB tE yX2_follow cX2_follow 6 (some .int) 4 101 0 0 (kw cy a rw S) [.ref (a 35), .ref (a (12 + 2 * p0)), .ref (a (2 + 2 * p1)), .int p2, .int p3] (QI D (U := KS) post (kw cy a rw)) := by
  refine Ct.ofZ RX2 "follow" [(0, .ref (a 35)), (1, .ref (a (12 + 2 * p0))), (2, .ref (a (2 + 2 * p1))), (3, .int p2), (4, .int p3)] rfl rfl rfl rfl (Nat.le_of_ble_eq_true rfl) ?_
  intro p e R s m args below meth c A b
  unfold w_X2_follow at h
  refine z_aload_n b dX2_follow_0 rfl rfl ?_
  refine z_get (q0 := 35) (k9 := 3) (v := .ref (a 8)) b (kw_35 cy a rw S) rfl in_X2 (by decide) wf_X2_25 rfl dX2_follow_1 ?_
  refine z_aload_n b dX2_follow_4 rfl rfl ?_
  refine z_callv b (z_runV (q0 := 8) (As := [.ref (a (2 + 2 * p1))]) (st := []) b (k_X9_copy hrw S 3 p1 _ h) cf_X9_copy (kw_8 cy a rw S) rfl wm_X2_80 wi_X9_copy ws_X9_copy dX2_follow_5 rfl (Nat.le_of_ble_eq_true rfl) ⟨by decide, by decide, Nat.le_of_ble_eq_true rfl, Nat.le_of_ble_eq_true rfl⟩) (fun S2 h => ?_)
  refine z_aload_n b dX2_follow_8 rfl rfl ?_
  refine z_iconst (v := (-1)) b dX2_follow_9 (by decide) ?_
  refine z_put (q0 := 35) (k9 := 4) tyX2 b (kw_35 cy a rw S2) rfl in_X2 tyX2_ok nmX2 (by decide) wf_X2_28 rfl rfl rfl rfl (Nat.le_of_ble_eq_true rfl) dX2_follow_10 (kwp_35_4 cy a rw S2 (-1)) ?_
  refine z_iconst (v := 0) b dX2_follow_13 (by decide) ?_
  refine z_istore (lv' := [(5, .int 0), (0, .ref (a 35)), (1, .ref (a (12 + 2 * p0))), (2, .ref (a (2 + 2 * p1))), (3, .int p2), (4, .int p3)]) b dX2_follow_14 (by decide) rfl ?_
  refine z_lv0 (lv' := [(0, .ref (a 35)), (1, .ref (a (12 + 2 * p0))), (3, .int p2), (4, .int p3), (5, .int 0)]) [1, 2, 4, 5, 0] rfl ?_
  obtain ⟨n, h⟩ := h
  exact zl_X2_follow_L16 hrw b (fun S x1 h => z_X2_follow_B74 hrw b _ _ h) n _ _ _ _ _ h

def w_X11_after_B14 (cy : Nat → ClassId) (tE : Nat) (post : Int32 → KS → Prop) (S : KS)  : Prop :=
  post (-1) S

set_option maxHeartbeats 200000 in
set_option maxRecDepth 100000 in
theorem z_X11_after_B14 {p : Program} {l : Launch} {e : Env} {R : Room} {s : State} {m : MethodId} {args : Array Value} {below : List Frame} {meth : Method} {c : Code} {D : va_G} {cy : Nat → ClassId} {T0 tB tE : Nat} {A : Nat → Prop} {a : Nat → Nat} {rw : Nat → Option Nat} (hrw : ∀ i, i < 6 → rw i = some (a (12 + 2 * i))) {post : Int32 → KS → Prop} (b : Bz p R s m args meth c D cy T0 tB tE A 3 cX11_after RX11 (some .int) "after" 5 126 0 0) (S : KS)  (h : w_X11_after_B14 cy tE post S ) : Z p l e R s m args below meth c D A 3 (MQ below (QI D (U := KS) post (kw cy a rw) A) args s 0 0 A) 0 0 (kw cy a rw S) [] 14 [] := by
  unfold w_X11_after_B14 at h
  refine z_iconst (v := (-1)) b dX11_after_14 (by decide) ?_
  exact z_iret (u := S) b rfl dX11_after_15 h rfl (by decide) (by decide)

def w_X11_after (cy : Nat → ClassId) (tE : Nat) (S : KS) (p0 : Int32) (p1 : Int32) (post : Int32 → KS → Prop) : Prop :=
  w_X11_isRow cy tE S p0 (fun r1 S2 => ((r1.toInt = 0 → w_X11_after_B14 cy tE post S2) ∧ (r1.toInt ≠ 0 → w_X9_has cy tE S2 p1 (fun r3 S4 => ((r3.toInt ≠ 0 → (0 ≤ p0.toInt ∧ p0.toInt < 6) ∧ w_X2_follow cy tE S4 (p0.toNatClampNeg) 0 3 0 (fun r7 S8 => w_X9_get cy tE S8 3 p1 (fun r9 S10 => post r9 S10))) ∧ (r3.toInt = 0 → w_X11_after_B14 cy tE post S4))))))

set_option maxHeartbeats 200000 in
set_option maxRecDepth 100000 in
theorem k_X11_after {l : Launch} {D : va_G} {cy : Nat → ClassId} {T0 tB tE : Nat} {a : Nat → Nat} {rw : Nat → Option Nat} (hrw : ∀ i, i < 6 → rw i = some (a (12 + 2 * i))) (S : KS) (p0 : Int32) (p1 : Int32) (post : Int32 → KS → Prop) (h : w_X11_after cy tE S p0 p1 post) : Ct l D cy T0 tB tE yX11_after cX11_after 3 (some .int) 5 126 0 0 (kw cy a rw S) [.ref (a 0), .int p0, .int p1] (QI D (U := KS) post (kw cy a rw)) := by
  refine Ct.ofZ RX11 "after" [(0, .ref (a 0)), (1, .int p0), (2, .int p1)] rfl rfl rfl rfl (Nat.le_of_ble_eq_true rfl) ?_
  intro p e R s m args below meth c A b
  unfold w_X11_after at h
  refine z_iload_n b dX11_after_0 rfl rfl ?_
  refine z_calli b (z_runS (As := [.int p0]) (st := []) b (k_X11_isRow hrw S p0 _ h) cf_X11_isRow wm_X11_169 ws_X11_isRow dX11_after_1 rfl (Nat.le_of_ble_eq_true rfl) ⟨by decide, by decide, Nat.le_of_ble_eq_true rfl, Nat.le_of_ble_eq_true rfl⟩) (fun r1 S2 h => ?_)
  refine y_if_eq (tgt := 14) (xl := r1.toInt) b rfl dX11_after_4 (by decide) (fun c1 => ?_) (fun c1 => ?_)
  · replace h := h.1 c1
    refine z_lv0 (lv' := []) [] rfl ?_
    exact z_X11_after_B14 hrw b _ h
  · replace h := h.2 c1
    refine z_iload_n b dX11_after_7 rfl rfl ?_
    refine z_calli b (z_runS (As := [.int p1]) (st := []) b (k_X9_has hrw S2 p1 _ h) cf_X9_has wm_X11_191 ws_X9_has dX11_after_8 rfl (Nat.le_of_ble_eq_true rfl) ⟨by decide, by decide, Nat.le_of_ble_eq_true rfl, Nat.le_of_ble_eq_true rfl⟩) (fun r3 S4 h => ?_)
    refine y_if_ne (tgt := 16) (xl := r3.toInt) b rfl dX11_after_11 (by decide) (fun c1 => ?_) (fun c1 => ?_)
    · replace h := h.1 c1
      refine z_aload_n b dX11_after_16 rfl rfl ?_
      refine z_get (q0 := 0) (k9 := 5) (v := .ref (a 35)) b (kw_0 cy a rw S4) rfl in_X11 (by decide) wf_X11_43 rfl dX11_after_17 ?_
      refine z_aload_n b dX11_after_20 rfl rfl ?_
      refine z_get (q0 := 0) (k9 := 7) (v := .ref (a 46)) b (kw_0 cy a rw S4) rfl in_X11 (by decide) wf_X11_58 rfl dX11_after_21 ?_
      refine z_iload_n b dX11_after_24 rfl rfl ?_
      obtain ⟨g5, h⟩ := h
      refine y_aald (q0 := 46) (t0 := 4) (j := p0.toNatClampNeg) (v := .ref (a (12 + 2 * (p0.toNatClampNeg)))) b (kw_46 cy a rw S4) rfl (zx_r g5.1 g5.2) (by rw [hrw _ (zx_lt (zx_r g5.1 g5.2))]; rfl) dX11_after_25 ?_
      refine z_aload_n b dX11_after_26 rfl rfl ?_
      refine z_get (q0 := 0) (k9 := 4) (v := .ref (a 2)) b (kw_0 cy a rw S4) rfl in_X11 (by decide) wf_X11_34 rfl dX11_after_27 ?_
      refine z_iconst (v := 3) b dX11_after_30 (by decide) ?_
      refine z_iconst (v := 0) b dX11_after_31 (by decide) ?_
      refine z_calli b (z_runV (q0 := 35) (As := [.ref (a (12 + 2 * (p0.toNatClampNeg))), .ref (a 2), .int 3, .int 0]) (st := []) b (k_X2_follow hrw S4 (p0.toNatClampNeg) 0 3 0 _ h) cf_X2_follow (kw_35 cy a rw S4) rfl wm_X11_184 wi_X2_follow ws_X2_follow dX11_after_32 rfl (Nat.le_of_ble_eq_true rfl) ⟨by decide, by decide, Nat.le_of_ble_eq_true rfl, Nat.le_of_ble_eq_true rfl⟩) (fun r7 S8 h => ?_)
      refine z_pop b dX11_after_35 rfl ?_
      refine z_aload_n b dX11_after_36 rfl rfl ?_
      refine z_get (q0 := 0) (k9 := 5) (v := .ref (a 35)) b (kw_0 cy a rw S8) rfl in_X11 (by decide) wf_X11_43 rfl dX11_after_37 ?_
      refine z_get (q0 := 35) (k9 := 3) (v := .ref (a 8)) b (kw_35 cy a rw S8) rfl in_X2 (by decide) wf_X11_194 rfl dX11_after_40 ?_
      refine z_iload_n b dX11_after_43 rfl rfl ?_
      refine z_calli b (z_runV (q0 := 8) (As := [.int p1]) (st := []) b (k_X9_get hrw S8 3 p1 _ h) cf_X9_get (kw_8 cy a rw S8) rfl wm_X11_197 wi_X9_get ws_X9_get dX11_after_44 rfl (Nat.le_of_ble_eq_true rfl) ⟨by decide, by decide, Nat.le_of_ble_eq_true rfl, Nat.le_of_ble_eq_true rfl⟩) (fun r9 S10 h => ?_)
      exact z_iret (u := S10) b rfl dX11_after_47 h rfl (by decide) (by decide)
    · replace h := h.2 c1
      refine z_lv0 (lv' := []) [] rfl ?_
      exact z_X11_after_B14 hrw b _ h

def w_X8_leastName_F12 (cy : Nat → ClassId) (tE : Nat) (post : Int64 → KS → Prop) (k44 : KS → Int64 → Prop) (k12 : KS → Int64 → Int32 → Prop) (S : KS) (x1 : Int64) (x3 : Int32) : Prop :=
  ((36 ≤ x3.toInt → k44 S x1) ∧ (x3.toInt < 36 → w_X9_packed cy tE S 4 (x3 / 6) (x3 - x3 / 6 * 6) (fun r3 S4 => k12 S4 (if (r3 < x1 : Prop) then r3 else x1) (x3 + 1))))

set_option maxHeartbeats 200000 in
set_option maxRecDepth 100000 in
theorem z_X8_leastName_F12 {p : Program} {l : Launch} {e : Env} {R : Room} {s : State} {m : MethodId} {args : Array Value} {below : List Frame} {meth : Method} {c : Code} {D : va_G} {cy : Nat → ClassId} {T0 tB tE : Nat} {A : Nat → Prop} {a : Nat → Nat} {rw : Nat → Option Nat} (hrw : ∀ i, i < 6 → rw i = some (a (12 + 2 * i))) {post : Int64 → KS → Prop} {k44 : KS → Int64 → Prop} {k12 : KS → Int64 → Int32 → Prop} (b : Bz p R s m args meth c D cy T0 tB tE A 4 cX8_leastName RX8 (some .long) "leastName" 2 51 0 0) (hk44 : ∀ (S : KS) (x1 : Int64), k44 S x1 → Z p l e R s m args below meth c D A 4 (MQ below (QL D (U := KS) post (kw cy a rw) A) args s 0 0 A) 0 0 (kw cy a rw S) [(1, .long x1)] 44 []) (hk12 : ∀ (S : KS) (x1 : Int64) (x3 : Int32), k12 S x1 x3 → Z p l e R s m args below meth c D A 4 (MQ below (QL D (U := KS) post (kw cy a rw) A) args s 0 0 A) 0 0 (kw cy a rw S) [(0, .ref (a 38)), (1, .long x1), (3, .int x3)] 12 []) (S : KS) (x1 : Int64) (x3 : Int32) (h : w_X8_leastName_F12 cy tE post k44 k12 S x1 x3) : Z p l e R s m args below meth c D A 4 (MQ below (QL D (U := KS) post (kw cy a rw) A) args s 0 0 A) 0 0 (kw cy a rw S) [(0, .ref (a 38)), (1, .long x1), (3, .int x3)] 12 [] := by
  unfold w_X8_leastName_F12 at h
  refine z_iload_n b dX8_leastName_12 rfl rfl ?_
  refine z_bipush (v := 36) b dX8_leastName_13 (by decide) ?_
  refine y_icmp_ge (tgt := 44) (xl := x3.toInt) (yl := 36) b rfl (by decide) dX8_leastName_15 (by decide) (fun c1 => ?_) (fun c1 => ?_)
  · replace h := h.1 c1
    refine z_lv0 (lv' := [(1, .long x1)]) [1] rfl ?_
    exact hk44 _ _ h
  · replace h := h.2 c1
    refine z_lload_n b dX8_leastName_18 rfl rfl ?_
    refine z_aload_n b dX8_leastName_19 rfl rfl ?_
    refine z_get (q0 := 38) (k9 := 2) (v := .ref (a 10)) b (kw_38 cy a rw S) rfl in_X8 (by decide) wf_X8_12 rfl dX8_leastName_20 ?_
    refine z_iload_n b dX8_leastName_23 rfl rfl ?_
    refine z_bipush (v := 6) b dX8_leastName_24 (by decide) ?_
    refine z_idiv b dX8_leastName_26 (by decide) rfl ?_
    refine z_iload_n b dX8_leastName_27 rfl rfl ?_
    refine z_bipush (v := 6) b dX8_leastName_28 (by decide) ?_
    refine z_irem b dX8_leastName_30 (by decide) rfl ?_
    refine z_calll b (z_runV (q0 := 10) (As := [.int (x3 / 6), .int (x3 - x3 / 6 * 6)]) (st := [.long x1]) b (k_X9_packed hrw S 4 (x3 / 6) (x3 - x3 / 6 * 6) _ h) cf_X9_packed (kw_10 cy a rw S) rfl wm_X8_86 wi_X9_packed ws_X9_packed dX8_leastName_31 rfl (Nat.le_of_ble_eq_true rfl) ⟨by decide, by decide, Nat.le_of_ble_eq_true rfl, Nat.le_of_ble_eq_true rfl⟩) (fun r3 S4 h => ?_)
    refine z_mminl (v := (if (r3 < x1 : Prop) then r3 else x1)) b wL_X8_171 wLs_mminl wi_Math wLc_mminl dX8_leastName_34 (by decide) (Nat.le_of_ble_eq_true rfl) ⟨by decide, by decide⟩ rfl ?_
    refine z_lstore_n (lv' := [(1, .long (if (r3 < x1 : Prop) then r3 else x1)), (0, .ref (a 38)), (3, .int x3)]) b dX8_leastName_37 rfl (by decide) rfl ?_
    refine z_iinc (k9 := 2) (v := (x3 + 1)) (lv' := [(3, .int (x3 + 1)), (1, .long (if (r3 < x1 : Prop) then r3 else x1)), (0, .ref (a 38))]) b dX8_leastName_38 rfl rfl (by decide) rfl ?_
    refine z_goto (tgt := 12) b dX8_leastName_41 (by decide) ?_
    refine z_lv0 (lv' := [(0, .ref (a 38)), (1, .long (if (r3 < x1 : Prop) then r3 else x1)), (3, .int (x3 + 1))]) [2, 1, 0] rfl ?_
    exact hk12 _ _ _ h

set_option maxHeartbeats 200000 in
set_option maxRecDepth 100000 in
theorem zl_X8_leastName_L12 {p : Program} {l : Launch} {e : Env} {R : Room} {s : State} {m : MethodId} {args : Array Value} {below : List Frame} {meth : Method} {c : Code} {D : va_G} {cy : Nat → ClassId} {T0 tB tE : Nat} {A : Nat → Prop} {a : Nat → Nat} {rw : Nat → Option Nat} (hrw : ∀ i, i < 6 → rw i = some (a (12 + 2 * i))) {post : Int64 → KS → Prop} {k44 : KS → Int64 → Prop} (b : Bz p R s m args meth c D cy T0 tB tE A 4 cX8_leastName RX8 (some .long) "leastName" 2 51 0 0) (hk44 : ∀ (S : KS) (x1 : Int64), k44 S x1 → Z p l e R s m args below meth c D A 4 (MQ below (QL D (U := KS) post (kw cy a rw) A) args s 0 0 A) 0 0 (kw cy a rw S) [(1, .long x1)] 44 []) : ∀ (n : Nat) (S : KS) (x1 : Int64) (x3 : Int32), lpn (w_X8_leastName_F12 cy tE post k44) (fun _ _ _ => False) n S x1 x3 → Z p l e R s m args below meth c D A 4 (MQ below (QL D (U := KS) post (kw cy a rw) A) args s 0 0 A) 0 0 (kw cy a rw S) [(0, .ref (a 38)), (1, .long x1), (3, .int x3)] 12 [] := by
  intro n
  induction n with
  | zero => intro _ _ _ h; exact h.elim
  | succ n ih => intro S x1 x3 h; exact z_X8_leastName_F12 hrw b hk44 ih S x1 x3 h

def w_X8_leastName_B44 (cy : Nat → ClassId) (tE : Nat) (post : Int64 → KS → Prop) (S : KS) (x1 : Int64) : Prop :=
  post x1 S

set_option maxHeartbeats 200000 in
set_option maxRecDepth 100000 in
theorem z_X8_leastName_B44 {p : Program} {l : Launch} {e : Env} {R : Room} {s : State} {m : MethodId} {args : Array Value} {below : List Frame} {meth : Method} {c : Code} {D : va_G} {cy : Nat → ClassId} {T0 tB tE : Nat} {A : Nat → Prop} {a : Nat → Nat} {rw : Nat → Option Nat} (hrw : ∀ i, i < 6 → rw i = some (a (12 + 2 * i))) {post : Int64 → KS → Prop} (b : Bz p R s m args meth c D cy T0 tB tE A 4 cX8_leastName RX8 (some .long) "leastName" 2 51 0 0) (S : KS) (x1 : Int64) (h : w_X8_leastName_B44 cy tE post S x1) : Z p l e R s m args below meth c D A 4 (MQ below (QL D (U := KS) post (kw cy a rw) A) args s 0 0 A) 0 0 (kw cy a rw S) [(1, .long x1)] 44 [] := by
  unfold w_X8_leastName_B44 at h
  refine z_lload_n b dX8_leastName_44 rfl rfl ?_
  exact z_lret (u := S) b rfl dX8_leastName_45 h rfl (by decide) (by decide)

def w_X8_leastName (cy : Nat → ClassId) (tE : Nat) (S : KS)  (post : Int64 → KS → Prop) : Prop :=
  w_X9_packed cy tE S 4 0 0 (fun r1 S2 => ∃ n, lpn (w_X8_leastName_F12 cy tE post (w_X8_leastName_B44 cy tE post)) (fun _ _ _ => False) n S2 r1 1)

set_option maxHeartbeats 200000 in
set_option maxRecDepth 100000 in
theorem k_X8_leastName {l : Launch} {D : va_G} {cy : Nat → ClassId} {T0 tB tE : Nat} {a : Nat → Nat} {rw : Nat → Option Nat} (hrw : ∀ i, i < 6 → rw i = some (a (12 + 2 * i))) (S : KS)  (post : Int64 → KS → Prop) (h : w_X8_leastName cy tE S  post) : Ct l D cy T0 tB tE yX8_leastName cX8_leastName 4 (some .long) 2 51 0 0 (kw cy a rw S) [.ref (a 38)] (QL D (U := KS) post (kw cy a rw)) := by
  refine Ct.ofZ RX8 "leastName" [(0, .ref (a 38))] rfl rfl rfl rfl (Nat.le_of_ble_eq_true rfl) ?_
  intro p e R s m args below meth c A b
  unfold w_X8_leastName at h
  refine z_aload_n b dX8_leastName_0 rfl rfl ?_
  refine z_get (q0 := 38) (k9 := 2) (v := .ref (a 10)) b (kw_38 cy a rw S) rfl in_X8 (by decide) wf_X8_12 rfl dX8_leastName_1 ?_
  refine z_iconst (v := 0) b dX8_leastName_4 (by decide) ?_
  refine z_iconst (v := 0) b dX8_leastName_5 (by decide) ?_
  refine z_calll b (z_runV (q0 := 10) (As := [.int 0, .int 0]) (st := []) b (k_X9_packed hrw S 4 0 0 _ h) cf_X9_packed (kw_10 cy a rw S) rfl wm_X8_86 wi_X9_packed ws_X9_packed dX8_leastName_6 rfl (Nat.le_of_ble_eq_true rfl) ⟨by decide, by decide, Nat.le_of_ble_eq_true rfl, Nat.le_of_ble_eq_true rfl⟩) (fun r1 S2 h => ?_)
  refine z_lstore_n (lv' := [(1, .long r1), (0, .ref (a 38))]) b dX8_leastName_9 rfl (by decide) rfl ?_
  refine z_iconst (v := 1) b dX8_leastName_10 (by decide) ?_
  refine z_istore_n (lv' := [(3, .int 1), (1, .long r1), (0, .ref (a 38))]) b dX8_leastName_11 rfl (by decide) rfl ?_
  refine z_lv0 (lv' := [(0, .ref (a 38)), (1, .long r1), (3, .int 1)]) [2, 1, 0] rfl ?_
  obtain ⟨n, h⟩ := h
  exact zl_X8_leastName_L12 hrw b (fun S x1 h => z_X8_leastName_B44 hrw b _ _ h) n _ _ _ h

def w_X7_renamed (cy : Nat → ClassId) (tE : Nat) (S : KS) (p0 : Int32) (p1 : Int32) (p2 : Int32) (post : Int32 → KS → Prop) : Prop :=
  w_X11_doerOf cy tE S p0 (fun r1 S2 => w_X11_become cy tE S2 p1 r1 (fun r3 S4 => w_X11_otherOf cy tE S4 p0 (fun r5 S6 => w_X11_become cy tE S6 p1 r5 (fun r7 S8 => w_X11_thingOf cy tE S8 p0 (fun r9 S10 => w_X11_become cy tE S10 p2 r9 (fun r11 S12 => post (((((p0 / 64) * 64) + ((16 : Int32) * r3)) + ((4 : Int32) * r7)) + r11) S12))))))

set_option maxHeartbeats 200000 in
set_option maxRecDepth 100000 in
theorem k_X7_renamed {l : Launch} {D : va_G} {cy : Nat → ClassId} {T0 tB tE : Nat} {a : Nat → Nat} {rw : Nat → Option Nat} (hrw : ∀ i, i < 6 → rw i = some (a (12 + 2 * i))) (S : KS) (p0 : Int32) (p1 : Int32) (p2 : Int32) (post : Int32 → KS → Prop) (h : w_X7_renamed cy tE S p0 p1 p2 post) : Ct l D cy T0 tB tE yX7_renamed cX7_renamed 6 (some .int) 1 22 0 0 (kw cy a rw S) [.int p0, .int p1, .int p2] (QI D (U := KS) post (kw cy a rw)) := by
  refine Ct.ofZ RX7 "renamed" [(0, .int p0), (1, .int p1), (2, .int p2)] rfl rfl rfl rfl (Nat.le_of_ble_eq_true rfl) ?_
  intro p e R s m args below meth c A b
  unfold w_X7_renamed at h
  refine z_iload_n b dX7_renamed_0 rfl rfl ?_
  refine z_iload_n b dX7_renamed_1 rfl rfl ?_
  refine z_calli b (z_runSN (As := [.int p0]) (st := [.int p1]) b (k_X11_doerOf hrw S p0 _ h) cf_X11_doerOf (nw_X7_37) ws_X11_doerOf dX7_renamed_2 rfl (Nat.le_of_ble_eq_true rfl) ⟨by decide, by decide, Nat.le_of_ble_eq_true rfl, Nat.le_of_ble_eq_true rfl⟩) (fun r1 S2 h => ?_)
  refine z_calli b (z_runSN (As := [.int p1, .int r1]) (st := []) b (k_X11_become hrw S2 p1 r1 _ h) cf_X11_become (nw_X7_40) ws_X11_become dX7_renamed_5 rfl (Nat.le_of_ble_eq_true rfl) ⟨by decide, by decide, Nat.le_of_ble_eq_true rfl, Nat.le_of_ble_eq_true rfl⟩) (fun r3 S4 h => ?_)
  refine z_istore_n (lv' := [(3, .int r3), (0, .int p0), (1, .int p1), (2, .int p2)]) b dX7_renamed_8 rfl (by decide) rfl ?_
  refine z_iload_n b dX7_renamed_9 rfl rfl ?_
  refine z_iload_n b dX7_renamed_10 rfl rfl ?_
  refine z_calli b (z_runSN (As := [.int p0]) (st := [.int p1]) b (k_X11_otherOf hrw S4 p0 _ h) cf_X11_otherOf (nw_X7_43) ws_X11_otherOf dX7_renamed_11 rfl (Nat.le_of_ble_eq_true rfl) ⟨by decide, by decide, Nat.le_of_ble_eq_true rfl, Nat.le_of_ble_eq_true rfl⟩) (fun r5 S6 h => ?_)
  refine z_calli b (z_runSN (As := [.int p1, .int r5]) (st := []) b (k_X11_become hrw S6 p1 r5 _ h) cf_X11_become (nw_X7_40) ws_X11_become dX7_renamed_14 rfl (Nat.le_of_ble_eq_true rfl) ⟨by decide, by decide, Nat.le_of_ble_eq_true rfl, Nat.le_of_ble_eq_true rfl⟩) (fun r7 S8 h => ?_)
  refine z_istore (lv' := [(4, .int r7), (3, .int r3), (0, .int p0), (1, .int p1), (2, .int p2)]) b dX7_renamed_17 (by decide) rfl ?_
  refine z_iload_n b dX7_renamed_19 rfl rfl ?_
  refine z_iload_n b dX7_renamed_20 rfl rfl ?_
  refine z_calli b (z_runSN (As := [.int p0]) (st := [.int p2]) b (k_X11_thingOf hrw S8 p0 _ h) cf_X11_thingOf (nw_X7_46) ws_X11_thingOf dX7_renamed_21 rfl (Nat.le_of_ble_eq_true rfl) ⟨by decide, by decide, Nat.le_of_ble_eq_true rfl, Nat.le_of_ble_eq_true rfl⟩) (fun r9 S10 h => ?_)
  refine z_calli b (z_runSN (As := [.int p2, .int r9]) (st := []) b (k_X11_become hrw S10 p2 r9 _ h) cf_X11_become (nw_X7_40) ws_X11_become dX7_renamed_24 rfl (Nat.le_of_ble_eq_true rfl) ⟨by decide, by decide, Nat.le_of_ble_eq_true rfl, Nat.le_of_ble_eq_true rfl⟩) (fun r11 S12 h => ?_)
  refine z_istore (lv' := [(5, .int r11), (4, .int r7), (3, .int r3), (0, .int p0), (1, .int p1), (2, .int p2)]) b dX7_renamed_27 (by decide) rfl ?_
  refine z_iload_n b dX7_renamed_29 rfl rfl ?_
  refine z_bipush (v := 64) b dX7_renamed_30 (by decide) ?_
  refine z_idiv b dX7_renamed_32 (by decide) rfl ?_
  refine z_bipush (v := 64) b dX7_renamed_33 (by decide) ?_
  refine z_imul b dX7_renamed_35 rfl ?_
  refine z_bipush (v := 16) b dX7_renamed_36 (by decide) ?_
  refine z_iload_n b dX7_renamed_38 rfl rfl ?_
  refine z_imul b dX7_renamed_39 rfl ?_
  refine z_iadd b dX7_renamed_40 rfl ?_
  refine z_iconst (v := 4) b dX7_renamed_41 (by decide) ?_
  refine z_iload b dX7_renamed_42 rfl ?_
  refine z_imul b dX7_renamed_44 rfl ?_
  refine z_iadd b dX7_renamed_45 rfl ?_
  refine z_iload b dX7_renamed_46 rfl ?_
  refine z_iadd b dX7_renamed_48 rfl ?_
  exact z_iret (u := S12) b rfl dX7_renamed_49 h rfl (by decide) (by decide)

def w_Jx4a65c_grow_92f84_B20 (cy : Nat → ClassId) (tE : Nat) (mc ms : Nat) (post : Option Nat → KS → Prop) (S : KS) (nc : Nat) (ns : Nat) (x0 : Nat) (x1 : Int32) (x2 : Int32) : Prop :=
  False

set_option maxHeartbeats 200000 in
set_option maxRecDepth 100000 in
theorem z_Jx4a65c_grow_92f84_B20 {p : Program} {l : Launch} {e : Env} {R : Room} {s : State} {m : MethodId} {args : Array Value} {below : List Frame} {meth : Method} {c : Code} {D : va_G} {cy : Nat → ClassId} {T0 tB tE : Nat} {A : Nat → Prop} {a : Nat → Nat} {rw : Nat → Option Nat} (hrw : ∀ i, i < 6 → rw i = some (a (12 + 2 * i))) {mc ms : Nat} {post : Option Nat → KS → Prop} (b : Bz p R s m args meth c D cy T0 tB tE A 4 cJx4a65c_grow_92f84 RJx4a65c (some (.array (.object "java/lang/Object"))) "grow" 1 40 mc ms) (S : KS) (nc : Nat) (ns : Nat) (x0 : Nat) (x1 : Int32) (x2 : Int32) (h : w_Jx4a65c_grow_92f84_B20 cy tE mc ms post S nc ns x0 x1 x2) : Z p l e R s m args below meth c D A 4 (MQ below (QQ D (U := KS) post (kw cy a rw) A) args s mc ms A) nc ns (kw cy a rw S) [(0, .ref x0), (1, .int x1), (2, .int x2)] 20 [] := by
  unfold w_Jx4a65c_grow_92f84_B20 at h
  refine z_iload_n b dJx4a65c_grow_92f84_20 rfl rfl ?_
  refine z_iload_n b dJx4a65c_grow_92f84_21 rfl rfl ?_
  refine z_iload_n b dJx4a65c_grow_92f84_22 rfl rfl ?_
  refine z_isub b dJx4a65c_grow_92f84_23 rfl ?_
  refine z_iload_n b dJx4a65c_grow_92f84_24 rfl rfl ?_
  refine z_iconst (v := 1) b dJx4a65c_grow_92f84_25 (by decide) ?_
  refine z_ishr b dJx4a65c_grow_92f84_26 rfl ?_
  exact h.elim

def w_Jx4a65c_grow_92f84 (cy : Nat → ClassId) (tE : Nat) (mc ms : Nat) (S : KS) (p9 : Nat) (p0 : Int32) (post : Option Nat → KS → Prop) : Prop :=
  ∃ (i1 : Nat) (f2 : Int32) (f3 : Nat) (f4 : Int32), S.2.2.2[i1]? = some (p9, .inr (0, [.int f2, .ref f3, .int f4])) ∧ ((f3 = tE ∧ ∃ (i6 : Nat) (f7 : Int32) (f8 : Nat) (f9 : Int32), S.2.2.2[i6]? = some (p9, .inr (0, [.int f7, .ref f8, .int f9])) ∧ ((f8 = tE → (0 ≤ mc ∧ 0 ≤ ms) ∧ (0 ≤ (if (10 < p0 : Prop) then p0 else 10).toInt ∧ (if (10 < p0 : Prop) then p0 else 10).toInt ≤ 100000) ∧ (0 + 1 ≤ mc ∧ 0 + (if (10 < p0 : Prop) then p0 else 10).toNatClampNeg ≤ ms) ∧ ∀ q12 : Nat, ∃ (i15 : Nat) (f16 : Int32) (f17 : Value) (f18 : Int32), (vn S.2.2.2 (q12, .inl (cy 5, (if (10 < p0 : Prop) then p0 else 10).toNatClampNeg, .inr (.inr (.inr (.inr (fun _ => none)))))))[i15]? = some (p9, .inr (0, [.int f16, f17, .int f18])) ∧ ((0 + 1) ≤ mc ∧ (0 + (if (10 < p0 : Prop) then p0 else 10).toNatClampNeg) ≤ ms) ∧ post (some q12) (ksL (ksL S (vn S.2.2.2 (q12, .inl (cy 5, (if (10 < p0 : Prop) then p0 else 10).toNatClampNeg, .inr (.inr (.inr (.inr (fun _ => none)))))))) ((vn S.2.2.2 (q12, .inl (cy 5, (if (10 < p0 : Prop) then p0 else 10).toNatClampNeg, .inr (.inr (.inr (.inr (fun _ => none))))))).set i15 (p9, .inr (0, [.int f16, .ref q12, .int f18]))))) ∧ (¬ f8 = tE → w_Jx4a65c_grow_92f84_B20 cy tE mc ms post S 0 0 p9 p0 0))) ∨ (∃ (i21 n22 : Nat) (f23 : Nat → Option Nat), S.2.2.2[i21]? = some (f3, .inl (cy 5, n22, .inr (.inr (.inr (.inr f23))))) ∧ ((0 < (Int32.ofNat n22).toInt → w_Jx4a65c_grow_92f84_B20 cy tE mc ms post S 0 0 p9 p0 (Int32.ofNat n22)) ∧ ((Int32.ofNat n22).toInt ≤ 0 → ∃ (i25 : Nat) (f26 : Int32) (f27 : Nat) (f28 : Int32), S.2.2.2[i25]? = some (p9, .inr (0, [.int f26, .ref f27, .int f28])) ∧ ((f27 = tE → (0 ≤ mc ∧ 0 ≤ ms) ∧ (0 ≤ (if (10 < p0 : Prop) then p0 else 10).toInt ∧ (if (10 < p0 : Prop) then p0 else 10).toInt ≤ 100000) ∧ (0 + 1 ≤ mc ∧ 0 + (if (10 < p0 : Prop) then p0 else 10).toNatClampNeg ≤ ms) ∧ ∀ q31 : Nat, ∃ (i34 : Nat) (f35 : Int32) (f36 : Value) (f37 : Int32), (vn S.2.2.2 (q31, .inl (cy 5, (if (10 < p0 : Prop) then p0 else 10).toNatClampNeg, .inr (.inr (.inr (.inr (fun _ => none)))))))[i34]? = some (p9, .inr (0, [.int f35, f36, .int f37])) ∧ ((0 + 1) ≤ mc ∧ (0 + (if (10 < p0 : Prop) then p0 else 10).toNatClampNeg) ≤ ms) ∧ post (some q31) (ksL (ksL S (vn S.2.2.2 (q31, .inl (cy 5, (if (10 < p0 : Prop) then p0 else 10).toNatClampNeg, .inr (.inr (.inr (.inr (fun _ => none)))))))) ((vn S.2.2.2 (q31, .inl (cy 5, (if (10 < p0 : Prop) then p0 else 10).toNatClampNeg, .inr (.inr (.inr (.inr (fun _ => none))))))).set i34 (p9, .inr (0, [.int f35, .ref q31, .int f37]))))) ∧ (¬ f27 = tE → w_Jx4a65c_grow_92f84_B20 cy tE mc ms post S 0 0 p9 p0 (Int32.ofNat n22)))))))

set_option maxHeartbeats 200000 in
set_option maxRecDepth 100000 in
theorem k_Jx4a65c_grow_92f84 {l : Launch} {D : va_G} {cy : Nat → ClassId} {T0 tB tE : Nat} {a : Nat → Nat} {rw : Nat → Option Nat} (hrw : ∀ i, i < 6 → rw i = some (a (12 + 2 * i))) {mc ms : Nat} (S : KS) (p9 : Nat) (p0 : Int32) (post : Option Nat → KS → Prop) (h : w_Jx4a65c_grow_92f84 cy tE mc ms S p9 p0 post) : Ct l D cy T0 tB tE yJx4a65c_grow_92f84 cJx4a65c_grow_92f84 4 (some (.array (.object "java/lang/Object"))) 1 40 mc ms (kw cy a rw S) [.ref p9, .int p0] (QQ D (U := KS) post (kw cy a rw)) := by
  refine Ct.ofZ RJx4a65c "grow" [(0, .ref p9), (1, .int p0)] rfl rfl rfl rfl (Nat.le_of_ble_eq_true rfl) ?_
  intro p e R s m args below meth c A b
  unfold w_Jx4a65c_grow_92f84 at h
  refine z_aload_n b dJx4a65c_grow_92f84_0 rfl rfl ?_
  obtain ⟨i1, f2, f3, f4, g5, h⟩ := h
  refine z_get (q0 := 47 + i1) (k9 := 1) (v := .ref f3) b (kw_dyn cy a rw S g5) rfl in_Jx4a65c (by decide) wf_Jx4a65c_9 rfl dJx4a65c_grow_92f84_1 ?_
  rcases h with ⟨e1, h⟩ | h
  · refine z_elen (t := f3) b e1 dJx4a65c_grow_92f84_4 ?_
    refine z_istore_n (lv' := [(2, .int 0), (0, .ref p9), (1, .int p0)]) b dJx4a65c_grow_92f84_5 rfl (by decide) rfl ?_
    refine z_iload_n b dJx4a65c_grow_92f84_6 rfl rfl ?_
    refine z_if_gt_f (tgt := 20) b dJx4a65c_grow_92f84_7 (by decide) (by decide) ?_
    refine z_aload_n b dJx4a65c_grow_92f84_10 rfl rfl ?_
    obtain ⟨i6, f7, f8, f9, g10, h⟩ := h
    refine z_get (q0 := 47 + i6) (k9 := 1) (v := .ref f8) b (kw_dyn cy a rw S g10) rfl in_Jx4a65c (by decide) wf_Jx4a65c_9 rfl dJx4a65c_grow_92f84_11 ?_
    refine z_getE b wf_Jx4a65c_39 dJx4a65c_grow_92f84_14 ?_
    refine z_acmp_eq (tgt := 45) b dJx4a65c_grow_92f84_17 (by decide) (fun c1 => ?_) (fun c1 => ?_)
    · replace h := h.1 c1
      refine z_aload_n b dJx4a65c_grow_92f84_45 rfl rfl ?_
      refine z_bipush (v := 10) b dJx4a65c_grow_92f84_46 (by decide) ?_
      refine z_iload_n b dJx4a65c_grow_92f84_48 rfl rfl ?_
      obtain ⟨g11, h⟩ := h
      refine z_mmax (v := (if (10 < p0 : Prop) then p0 else 10)) b wL_Jx4a65c_79 wLs_mmax wi_Math wLc_mmax dJx4a65c_grow_92f84_49 (by decide) (Nat.le_of_ble_eq_true rfl) ⟨g11.1, g11.2⟩ rfl ?_
      obtain ⟨g13, h⟩ := h
      obtain ⟨g14, h⟩ := h
      refine z_newq (N' := (if (10 < p0 : Prop) then p0 else 10).toNatClampNeg) (t0 := 5) b wk_Jx4a65c_7 b.E1.2.2.2.2.2.2.2.1 rfl (i_nneg g13.1) rfl (i_byt g13.1 g13.2) g14 dJx4a65c_grow_92f84_52 (fun q12 => ?_)
      replace h := h q12
      refine z_wseq (kw_newv cy a rw S (q12, .inl (cy 5, (if (10 < p0 : Prop) then p0 else 10).toNatClampNeg, .inr (.inr (.inr (.inr (fun _ => none))))))) ?_
      refine z_dup_x1 b dJx4a65c_grow_92f84_55 rfl rfl ?_
      obtain ⟨i15, f16, f17, f18, g19, h⟩ := h
      refine z_put (q0 := 47 + i15) (k9 := 1) tyJx4a65c b (kw_dyn cy a rw (ksL S (vn S.2.2.2 (q12, .inl (cy 5, (if (10 < p0 : Prop) then p0 else 10).toNatClampNeg, .inr (.inr (.inr (.inr (fun _ => none)))))))) g19) rfl in_Jx4a65c tyJx4a65c_ok nmJx4a65c (by decide) wf_Jx4a65c_9 rfl rfl rfl rfl (Nat.le_of_ble_eq_true rfl) dJx4a65c_grow_92f84_56 (kw_dset cy a rw (ksL S (vn S.2.2.2 (q12, .inl (cy 5, (if (10 < p0 : Prop) then p0 else 10).toNatClampNeg, .inr (.inr (.inr (.inr (fun _ => none)))))))) i15 (p9, .inr (0, [.int f16, .ref q12, .int f18]))) ?_
      obtain ⟨g20, h⟩ := h
      exact z_aret (v := (some q12)) (u := (ksL (ksL S (vn S.2.2.2 (q12, .inl (cy 5, (if (10 < p0 : Prop) then p0 else 10).toNatClampNeg, .inr (.inr (.inr (.inr (fun _ => none)))))))) ((vn S.2.2.2 (q12, .inl (cy 5, (if (10 < p0 : Prop) then p0 else 10).toNatClampNeg, .inr (.inr (.inr (.inr (fun _ => none))))))).set i15 (p9, .inr (0, [.int f16, .ref q12, .int f18]))))) b rfl (Or.inr ⟨_, rfl⟩) dJx4a65c_grow_92f84_59 h rfl g20.1 g20.2
    · replace h := h.2 c1
      refine z_lv0 (lv' := [(0, .ref p9), (1, .int p0), (2, .int 0)]) [1, 2, 0] rfl ?_
      exact z_Jx4a65c_grow_92f84_B20 hrw b _ _ _ _ _ _ h
  · obtain ⟨i21, n22, f23, g24, h⟩ := h
    refine z_alen (q0 := 47 + i21) (t0 := 5) (v := Int32.ofNat n22) b (kw_dyn cy a rw S g24) rfl rfl dJx4a65c_grow_92f84_4 ?_
    refine z_istore_n (lv' := [(2, .int (Int32.ofNat n22)), (0, .ref p9), (1, .int p0)]) b dJx4a65c_grow_92f84_5 rfl (by decide) rfl ?_
    refine z_iload_n b dJx4a65c_grow_92f84_6 rfl rfl ?_
    refine y_if_gt (tgt := 20) (xl := (Int32.ofNat n22).toInt) b rfl dJx4a65c_grow_92f84_7 (by decide) (fun c1 => ?_) (fun c1 => ?_)
    · replace h := h.1 c1
      refine z_lv0 (lv' := [(0, .ref p9), (1, .int p0), (2, .int (Int32.ofNat n22))]) [1, 2, 0] rfl ?_
      exact z_Jx4a65c_grow_92f84_B20 hrw b _ _ _ _ _ _ h
    · replace h := h.2 c1
      refine z_aload_n b dJx4a65c_grow_92f84_10 rfl rfl ?_
      obtain ⟨i25, f26, f27, f28, g29, h⟩ := h
      refine z_get (q0 := 47 + i25) (k9 := 1) (v := .ref f27) b (kw_dyn cy a rw S g29) rfl in_Jx4a65c (by decide) wf_Jx4a65c_9 rfl dJx4a65c_grow_92f84_11 ?_
      refine z_getE b wf_Jx4a65c_39 dJx4a65c_grow_92f84_14 ?_
      refine z_acmp_eq (tgt := 45) b dJx4a65c_grow_92f84_17 (by decide) (fun c1 => ?_) (fun c1 => ?_)
      · replace h := h.1 c1
        refine z_aload_n b dJx4a65c_grow_92f84_45 rfl rfl ?_
        refine z_bipush (v := 10) b dJx4a65c_grow_92f84_46 (by decide) ?_
        refine z_iload_n b dJx4a65c_grow_92f84_48 rfl rfl ?_
        obtain ⟨g30, h⟩ := h
        refine z_mmax (v := (if (10 < p0 : Prop) then p0 else 10)) b wL_Jx4a65c_79 wLs_mmax wi_Math wLc_mmax dJx4a65c_grow_92f84_49 (by decide) (Nat.le_of_ble_eq_true rfl) ⟨g30.1, g30.2⟩ rfl ?_
        obtain ⟨g32, h⟩ := h
        obtain ⟨g33, h⟩ := h
        refine z_newq (N' := (if (10 < p0 : Prop) then p0 else 10).toNatClampNeg) (t0 := 5) b wk_Jx4a65c_7 b.E1.2.2.2.2.2.2.2.1 rfl (i_nneg g32.1) rfl (i_byt g32.1 g32.2) g33 dJx4a65c_grow_92f84_52 (fun q31 => ?_)
        replace h := h q31
        refine z_wseq (kw_newv cy a rw S (q31, .inl (cy 5, (if (10 < p0 : Prop) then p0 else 10).toNatClampNeg, .inr (.inr (.inr (.inr (fun _ => none))))))) ?_
        refine z_dup_x1 b dJx4a65c_grow_92f84_55 rfl rfl ?_
        obtain ⟨i34, f35, f36, f37, g38, h⟩ := h
        refine z_put (q0 := 47 + i34) (k9 := 1) tyJx4a65c b (kw_dyn cy a rw (ksL S (vn S.2.2.2 (q31, .inl (cy 5, (if (10 < p0 : Prop) then p0 else 10).toNatClampNeg, .inr (.inr (.inr (.inr (fun _ => none)))))))) g38) rfl in_Jx4a65c tyJx4a65c_ok nmJx4a65c (by decide) wf_Jx4a65c_9 rfl rfl rfl rfl (Nat.le_of_ble_eq_true rfl) dJx4a65c_grow_92f84_56 (kw_dset cy a rw (ksL S (vn S.2.2.2 (q31, .inl (cy 5, (if (10 < p0 : Prop) then p0 else 10).toNatClampNeg, .inr (.inr (.inr (.inr (fun _ => none)))))))) i34 (p9, .inr (0, [.int f35, .ref q31, .int f37]))) ?_
        obtain ⟨g39, h⟩ := h
        exact z_aret (v := (some q31)) (u := (ksL (ksL S (vn S.2.2.2 (q31, .inl (cy 5, (if (10 < p0 : Prop) then p0 else 10).toNatClampNeg, .inr (.inr (.inr (.inr (fun _ => none)))))))) ((vn S.2.2.2 (q31, .inl (cy 5, (if (10 < p0 : Prop) then p0 else 10).toNatClampNeg, .inr (.inr (.inr (.inr (fun _ => none))))))).set i34 (p9, .inr (0, [.int f35, .ref q31, .int f37]))))) b rfl (Or.inr ⟨_, rfl⟩) dJx4a65c_grow_92f84_59 h rfl g39.1 g39.2
      · replace h := h.2 c1
        refine z_lv0 (lv' := [(0, .ref p9), (1, .int p0), (2, .int (Int32.ofNat n22))]) [1, 2, 0] rfl ?_
        exact z_Jx4a65c_grow_92f84_B20 hrw b _ _ _ _ _ _ h

def w_Jx4a65c_grow_d5877 (cy : Nat → ClassId) (tE : Nat) (mc ms : Nat) (S : KS) (p9 : Nat) (post : Option Nat → KS → Prop) : Prop :=
  ∃ (i1 : Nat) (f2 : Int32) (f3 : Value) (f4 : Int32), S.2.2.2[i1]? = some (p9, .inr (0, [.int f2, f3, .int f4])) ∧ ∃ m6 m7 : Nat, (0 + m6 ≤ mc ∧ 0 + m7 ≤ ms) ∧ ∃ (i9 : Nat) (f10 : List Value), S.2.2.2[i9]? = some (p9, .inr (0, f10)) ∧ w_Jx4a65c_grow_92f84 cy tE m6 m7 S p9 (f4 + 1) (fun r12 S13 => ((0 + m6) ≤ mc ∧ (0 + m7) ≤ ms) ∧ post r12 S13)

set_option maxHeartbeats 200000 in
set_option maxRecDepth 100000 in
theorem k_Jx4a65c_grow_d5877 {l : Launch} {D : va_G} {cy : Nat → ClassId} {T0 tB tE : Nat} {a : Nat → Nat} {rw : Nat → Option Nat} (hrw : ∀ i, i < 6 → rw i = some (a (12 + 2 * i))) {mc ms : Nat} (S : KS) (p9 : Nat) (post : Option Nat → KS → Prop) (h : w_Jx4a65c_grow_d5877 cy tE mc ms S p9 post) : Ct l D cy T0 tB tE yJx4a65c_grow_d5877 cJx4a65c_grow_d5877 1 (some (.array (.object "java/lang/Object"))) 2 63 mc ms (kw cy a rw S) [.ref p9] (QQ D (U := KS) post (kw cy a rw)) := by
  refine Ct.ofZ RJx4a65c "grow" [(0, .ref p9)] rfl rfl rfl rfl (Nat.le_of_ble_eq_true rfl) ?_
  intro p e R s m args below meth c A b
  unfold w_Jx4a65c_grow_d5877 at h
  refine z_aload_n b dJx4a65c_grow_d5877_0 rfl rfl ?_
  refine z_aload_n b dJx4a65c_grow_d5877_1 rfl rfl ?_
  obtain ⟨i1, f2, f3, f4, g5, h⟩ := h
  refine z_get (q0 := 47 + i1) (k9 := 2) (v := .int f4) b (kw_dyn cy a rw S g5) rfl in_Jx4a65c (by decide) wf_Jx4a65c_48 rfl dJx4a65c_grow_d5877_2 ?_
  refine z_iconst (v := 1) b dJx4a65c_grow_d5877_5 (by decide) ?_
  refine z_iadd b dJx4a65c_grow_d5877_6 rfl ?_
  obtain ⟨m6, m7, g8, h⟩ := h
  obtain ⟨i9, f10, g11, h⟩ := h
  refine z_callq b (z_runV (q0 := 47 + i9) (As := [.int (f4 + 1)]) (st := []) b (k_Jx4a65c_grow_92f84 hrw S p9 (f4 + 1) _ h) cf_Jx4a65c_grow_92f84 (kw_dyn cy a rw S g11) rfl wm_Jx4a65c_69 wi_Jx4a65c_grow_92f84 ws_Jx4a65c_grow_92f84 dJx4a65c_grow_d5877_7 rfl (Nat.le_of_ble_eq_true rfl) ⟨by decide, by decide, g8.1, g8.2⟩) (fun r12 S13 h => ?_)
  obtain ⟨g14, h⟩ := h
  exact z_aret (v := r12) (u := S13) b rfl (Or.inr ⟨_, rfl⟩) dJx4a65c_grow_d5877_10 h rfl g14.1 g14.2

def w_Jx4a65c_add_72be8_X1_B11 (cy : Nat → ClassId) (tE : Nat) (mc ms : Nat) (post : KS → Prop) (S : KS) (nc : Nat) (ns : Nat) (x0 : Nat) (x1 : Nat) (x2 : Option Nat) (x3 : Int32) : Prop :=
  ∃ q1 : Nat, x2 = some q1 ∧ ∃ (i3 n4 : Nat) (f5 : Nat → Option Nat), S.2.2.2[i3]? = some (q1, .inl (cy 5, n4, .inr (.inr (.inr (.inr f5))))) ∧ (0 ≤ x3.toInt ∧ x3.toInt < (n4 : Int)) ∧ ∃ (i8 : Nat) (f9 : List Value), S.2.2.2[i8]? = some (x1, .inr (2, f9)) ∧ ∃ (i11 : Nat) (f12 : Int32) (f13 : Value) (f14 : Int32), (S.2.2.2.set i3 (q1, .inl (cy 5, n4, .inr (.inr (.inr (.inr (va_up f5 x3.toNatClampNeg (some x1))))))))[i11]? = some (x0, .inr (0, [.int f12, f13, .int f14])) ∧ (nc ≤ mc ∧ ns ≤ ms) ∧ post (ksL (ksL S (S.2.2.2.set i3 (q1, .inl (cy 5, n4, .inr (.inr (.inr (.inr (va_up f5 x3.toNatClampNeg (some x1))))))))) ((S.2.2.2.set i3 (q1, .inl (cy 5, n4, .inr (.inr (.inr (.inr (va_up f5 x3.toNatClampNeg (some x1)))))))).set i11 (x0, .inr (0, [.int f12, f13, .int (x3 + 1)]))))

set_option maxHeartbeats 200000 in
set_option maxRecDepth 100000 in
theorem z_Jx4a65c_add_72be8_X1_B11 {p : Program} {l : Launch} {e : Env} {R : Room} {s : State} {m : MethodId} {args : Array Value} {below : List Frame} {meth : Method} {c : Code} {D : va_G} {cy : Nat → ClassId} {T0 tB tE : Nat} {A : Nat → Prop} {a : Nat → Nat} {rw : Nat → Option Nat} (hrw : ∀ i, i < 6 → rw i = some (a (12 + 2 * i))) {mc ms : Nat} {post : KS → Prop} (b : Bz p R s m args meth c D cy T0 tB tE A 4 cJx4a65c_add_72be8 RJx4a65c none "add" 3 83 mc ms) (S : KS) (nc : Nat) (ns : Nat) (x0 : Nat) (x1 : Nat) (x2 : Option Nat) (x3 : Int32) (h : w_Jx4a65c_add_72be8_X1_B11 cy tE mc ms post S nc ns x0 x1 x2 x3) : Z p l e R s m args below meth c D A 4 (MQ below (QV D (U := KS) post (kw cy a rw) A) args s mc ms A) nc ns (kw cy a rw S) [(0, .ref x0), (1, .ref x1), (2, va_rf x2), (3, .int x3)] 11 [] := by
  unfold w_Jx4a65c_add_72be8_X1_B11 at h
  refine z_aload_nQ b dJx4a65c_add_72be8_11 rfl rfl ?_
  refine z_iload_n b dJx4a65c_add_72be8_12 rfl rfl ?_
  refine z_aload_n b dJx4a65c_add_72be8_13 rfl rfl ?_
  obtain ⟨q1, g2, h⟩ := h
  subst g2
  obtain ⟨i3, n4, f5, g6, h⟩ := h
  obtain ⟨g7, h⟩ := h
  obtain ⟨i8, f9, g10, h⟩ := h
  refine y_aastO (q0 := 47 + i3) (t0 := 5) (qk := 47 + i8) (ci := 2) (j := x3.toNatClampNeg) b (kw_dyn cy a rw S g6) rfl (kw_dyn cy a rw S g10) rfl wca_X1 (zx_r g7.1 g7.2) dJx4a65c_add_72be8_14 (kw_dset cy a rw S i3 (q1, .inl (cy 5, n4, .inr (.inr (.inr (.inr (va_up f5 x3.toNatClampNeg (some x1)))))))) ?_
  refine z_aload_n b dJx4a65c_add_72be8_15 rfl rfl ?_
  refine z_iload_n b dJx4a65c_add_72be8_16 rfl rfl ?_
  refine z_iconst (v := 1) b dJx4a65c_add_72be8_17 (by decide) ?_
  refine z_iadd b dJx4a65c_add_72be8_18 rfl ?_
  obtain ⟨i11, f12, f13, f14, g15, h⟩ := h
  refine z_put (q0 := 47 + i11) (k9 := 2) tyJx4a65c b (kw_dyn cy a rw (ksL S (S.2.2.2.set i3 (q1, .inl (cy 5, n4, .inr (.inr (.inr (.inr (va_up f5 x3.toNatClampNeg (some x1))))))))) g15) rfl in_Jx4a65c tyJx4a65c_ok nmJx4a65c (by decide) wf_Jx4a65c_48 rfl rfl rfl rfl (Nat.le_of_ble_eq_true rfl) dJx4a65c_add_72be8_19 (kw_dset cy a rw (ksL S (S.2.2.2.set i3 (q1, .inl (cy 5, n4, .inr (.inr (.inr (.inr (va_up f5 x3.toNatClampNeg (some x1))))))))) i11 (x0, .inr (0, [.int f12, f13, .int (x3 + 1)]))) ?_
  obtain ⟨g16, h⟩ := h
  exact z_vret (u := (ksL (ksL S (S.2.2.2.set i3 (q1, .inl (cy 5, n4, .inr (.inr (.inr (.inr (va_up f5 x3.toNatClampNeg (some x1))))))))) ((S.2.2.2.set i3 (q1, .inl (cy 5, n4, .inr (.inr (.inr (.inr (va_up f5 x3.toNatClampNeg (some x1)))))))).set i11 (x0, .inr (0, [.int f12, f13, .int (x3 + 1)]))))) b rfl dJx4a65c_add_72be8_22 h rfl g16.1 g16.2

def w_Jx4a65c_add_72be8_X1 (cy : Nat → ClassId) (tE : Nat) (mc ms : Nat) (S : KS) (p9 : Nat) (p0 : Nat) (p1 : Nat) (p2 : Int32) (post : KS → Prop) : Prop :=
  ((p1 = tE ∧ ((p2.toInt ≠ 0 → w_Jx4a65c_add_72be8_X1_B11 cy tE mc ms post S 0 0 p9 p0 (some p1) p2) ∧ (p2.toInt = 0 → ∃ m17 m18 : Nat, (0 + m17 ≤ mc ∧ 0 + m18 ≤ ms) ∧ ∃ (i20 : Nat) (f21 : List Value), S.2.2.2[i20]? = some (p9, .inr (0, f21)) ∧ w_Jx4a65c_grow_d5877 cy tE m17 m18 S p9 (fun r23 S24 => w_Jx4a65c_add_72be8_X1_B11 cy tE mc ms post S24 (0 + m17) (0 + m18) p9 p0 r23 p2)))) ∨ (∃ (i25 n26 : Nat) (f27 : Nat → Option Nat), S.2.2.2[i25]? = some (p1, .inl (cy 5, n26, .inr (.inr (.inr (.inr f27))))) ∧ ((p2.toInt ≠ (Int32.ofNat n26).toInt → w_Jx4a65c_add_72be8_X1_B11 cy tE mc ms post S 0 0 p9 p0 (some p1) p2) ∧ (p2.toInt = (Int32.ofNat n26).toInt → ∃ m29 m30 : Nat, (0 + m29 ≤ mc ∧ 0 + m30 ≤ ms) ∧ ∃ (i32 : Nat) (f33 : List Value), S.2.2.2[i32]? = some (p9, .inr (0, f33)) ∧ w_Jx4a65c_grow_d5877 cy tE m29 m30 S p9 (fun r35 S36 => w_Jx4a65c_add_72be8_X1_B11 cy tE mc ms post S36 (0 + m29) (0 + m30) p9 p0 r35 p2)))))

set_option maxHeartbeats 200000 in
set_option maxRecDepth 100000 in
theorem k_Jx4a65c_add_72be8_X1 {l : Launch} {D : va_G} {cy : Nat → ClassId} {T0 tB tE : Nat} {a : Nat → Nat} {rw : Nat → Option Nat} (hrw : ∀ i, i < 6 → rw i = some (a (12 + 2 * i))) {mc ms : Nat} (S : KS) (p9 : Nat) (p0 : Nat) (p1 : Nat) (p2 : Int32) (post : KS → Prop) (h : w_Jx4a65c_add_72be8_X1 cy tE mc ms S p9 p0 p1 p2 post) : Ct l D cy T0 tB tE yJx4a65c_add_72be8 cJx4a65c_add_72be8 4 none 3 83 mc ms (kw cy a rw S) [.ref p9, .ref p0, .ref p1, .int p2] (QV D (U := KS) post (kw cy a rw)) := by
  refine Ct.ofZ RJx4a65c "add" [(0, .ref p9), (1, .ref p0), (2, .ref p1), (3, .int p2)] rfl rfl rfl rfl (Nat.le_of_ble_eq_true rfl) ?_
  intro p e R s m args below meth c A b
  unfold w_Jx4a65c_add_72be8_X1 at h
  refine z_iload_n b dJx4a65c_add_72be8_0 rfl rfl ?_
  refine z_aload_n b dJx4a65c_add_72be8_1 rfl rfl ?_
  rcases h with ⟨e1, h⟩ | h
  · refine z_elen (t := p1) b e1 dJx4a65c_add_72be8_2 ?_
    refine y_icmp_ne (tgt := 11) (xl := p2.toInt) (yl := 0) b rfl (by decide) dJx4a65c_add_72be8_3 (by decide) (fun c1 => ?_) (fun c1 => ?_)
    · replace h := h.1 c1
      exact z_Jx4a65c_add_72be8_X1_B11 hrw b _ _ _ _ _ _ _ h
    · replace h := h.2 c1
      refine z_aload_n b dJx4a65c_add_72be8_6 rfl rfl ?_
      obtain ⟨m17, m18, g19, h⟩ := h
      obtain ⟨i20, f21, g22, h⟩ := h
      refine z_callq b (z_runV (q0 := 47 + i20) (As := []) (st := []) b (k_Jx4a65c_grow_d5877 hrw S p9 _ h) cf_Jx4a65c_grow_d5877 (kw_dyn cy a rw S g22) rfl wm_Jx4a65c_129 wi_Jx4a65c_grow_d5877 ws_Jx4a65c_grow_d5877 dJx4a65c_add_72be8_7 rfl (Nat.le_of_ble_eq_true rfl) ⟨by decide, by decide, g19.1, g19.2⟩) (fun r23 S24 h => ?_)
      refine z_astore_nQ (lv' := [(2, va_rf r23), (0, .ref p9), (1, .ref p0), (3, .int p2)]) b dJx4a65c_add_72be8_10 rfl (by decide) rfl ?_
      refine z_lv0 (lv' := [(0, .ref p9), (1, .ref p0), (2, va_rf r23), (3, .int p2)]) [1, 2, 0, 3] rfl ?_
      exact z_Jx4a65c_add_72be8_X1_B11 hrw b _ _ _ _ _ _ _ h
  · obtain ⟨i25, n26, f27, g28, h⟩ := h
    refine z_alen (q0 := 47 + i25) (t0 := 5) (v := Int32.ofNat n26) b (kw_dyn cy a rw S g28) rfl rfl dJx4a65c_add_72be8_2 ?_
    refine y_icmp_ne (tgt := 11) (xl := p2.toInt) (yl := (Int32.ofNat n26).toInt) b rfl rfl dJx4a65c_add_72be8_3 (by decide) (fun c1 => ?_) (fun c1 => ?_)
    · replace h := h.1 c1
      exact z_Jx4a65c_add_72be8_X1_B11 hrw b _ _ _ _ _ _ _ h
    · replace h := h.2 c1
      refine z_aload_n b dJx4a65c_add_72be8_6 rfl rfl ?_
      obtain ⟨m29, m30, g31, h⟩ := h
      obtain ⟨i32, f33, g34, h⟩ := h
      refine z_callq b (z_runV (q0 := 47 + i32) (As := []) (st := []) b (k_Jx4a65c_grow_d5877 hrw S p9 _ h) cf_Jx4a65c_grow_d5877 (kw_dyn cy a rw S g34) rfl wm_Jx4a65c_129 wi_Jx4a65c_grow_d5877 ws_Jx4a65c_grow_d5877 dJx4a65c_add_72be8_7 rfl (Nat.le_of_ble_eq_true rfl) ⟨by decide, by decide, g31.1, g31.2⟩) (fun r35 S36 h => ?_)
      refine z_astore_nQ (lv' := [(2, va_rf r35), (0, .ref p9), (1, .ref p0), (3, .int p2)]) b dJx4a65c_add_72be8_10 rfl (by decide) rfl ?_
      refine z_lv0 (lv' := [(0, .ref p9), (1, .ref p0), (2, va_rf r35), (3, .int p2)]) [1, 2, 0, 3] rfl ?_
      exact z_Jx4a65c_add_72be8_X1_B11 hrw b _ _ _ _ _ _ _ h

def w_Jx4a65c_add_9ea2d_X1 (cy : Nat → ClassId) (tE : Nat) (mc ms : Nat) (S : KS) (p9 : Nat) (p0 : Nat) (post : Int32 → KS → Prop) : Prop :=
  ∃ (i1 : Nat) (f2 : Int32) (f3 : Value) (f4 : Int32), S.2.2.2[i1]? = some (p9, .inr (0, [.int f2, f3, .int f4])) ∧ ∃ (i6 : Nat) (f7 : Int32) (f8 : Value) (f9 : Int32), S.2.2.2[i6]? = some (p9, .inr (0, [.int f7, f8, .int f9])) ∧ ∃ (i11 : Nat) (f12 : Int32) (f13 : Nat) (f14 : Int32), (S.2.2.2.set i6 (p9, .inr (0, [.int (f2 + 1), f8, .int f9])))[i11]? = some (p9, .inr (0, [.int f12, .ref f13, .int f14])) ∧ ∃ (i16 : Nat) (f17 : Int32) (f18 : Value) (f19 : Int32), (S.2.2.2.set i6 (p9, .inr (0, [.int (f2 + 1), f8, .int f9])))[i16]? = some (p9, .inr (0, [.int f17, f18, .int f19])) ∧ ∃ m21 m22 : Nat, (0 + m21 ≤ mc ∧ 0 + m22 ≤ ms) ∧ ∃ (i24 : Nat) (f25 : List Value), (S.2.2.2.set i6 (p9, .inr (0, [.int (f2 + 1), f8, .int f9])))[i24]? = some (p9, .inr (0, f25)) ∧ w_Jx4a65c_add_72be8_X1 cy tE m21 m22 (ksL S (S.2.2.2.set i6 (p9, .inr (0, [.int (f2 + 1), f8, .int f9])))) p9 p0 f13 f19 (fun S28 => ((0 + m21) ≤ mc ∧ (0 + m22) ≤ ms) ∧ post 1 S28)

set_option maxHeartbeats 200000 in
set_option maxRecDepth 100000 in
theorem k_Jx4a65c_add_9ea2d_X1 {l : Launch} {D : va_G} {cy : Nat → ClassId} {T0 tB tE : Nat} {a : Nat → Nat} {rw : Nat → Option Nat} (hrw : ∀ i, i < 6 → rw i = some (a (12 + 2 * i))) {mc ms : Nat} (S : KS) (p9 : Nat) (p0 : Nat) (post : Int32 → KS → Prop) (h : w_Jx4a65c_add_9ea2d_X1 cy tE mc ms S p9 p0 post) : Ct l D cy T0 tB tE yJx4a65c_add_9ea2d cJx4a65c_add_9ea2d 2 (some .boolean) 4 106 mc ms (kw cy a rw S) [.ref p9, .ref p0] (QI D (U := KS) post (kw cy a rw)) := by
  refine Ct.ofZ RJx4a65c "add" [(0, .ref p9), (1, .ref p0)] rfl rfl rfl rfl (Nat.le_of_ble_eq_true rfl) ?_
  intro p e R s m args below meth c A b
  unfold w_Jx4a65c_add_9ea2d_X1 at h
  refine z_aload_n b dJx4a65c_add_9ea2d_0 rfl rfl ?_
  refine z_dup b dJx4a65c_add_9ea2d_1 rfl ?_
  obtain ⟨i1, f2, f3, f4, g5, h⟩ := h
  refine z_getS (q0 := 47 + i1) (k9 := 0) (v := .int f2) b (kw_dyn cy a rw S g5) rfl in_Jx4a65c (by decide) wf_Jx4a65c_63 wsf_mod rfl dJx4a65c_add_9ea2d_2 ?_
  refine z_iconst (v := 1) b dJx4a65c_add_9ea2d_5 (by decide) ?_
  refine z_iadd b dJx4a65c_add_9ea2d_6 rfl ?_
  obtain ⟨i6, f7, f8, f9, g10, h⟩ := h
  refine z_putS (q0 := 47 + i6) (k9 := 0) tyJx4a65c b (kw_dyn cy a rw S g10) rfl in_Jx4a65c tyJx4a65c_ok nmJx4a65c (by decide) wf_Jx4a65c_63 wsf_mod rfl rfl rfl rfl (Nat.le_of_ble_eq_true rfl) dJx4a65c_add_9ea2d_7 (kw_dset cy a rw S i6 (p9, .inr (0, [.int (f2 + 1), f8, .int f9]))) ?_
  refine z_aload_n b dJx4a65c_add_9ea2d_10 rfl rfl ?_
  refine z_aload_n b dJx4a65c_add_9ea2d_11 rfl rfl ?_
  refine z_aload_n b dJx4a65c_add_9ea2d_12 rfl rfl ?_
  obtain ⟨i11, f12, f13, f14, g15, h⟩ := h
  refine z_get (q0 := 47 + i11) (k9 := 1) (v := .ref f13) b (kw_dyn cy a rw (ksL S (S.2.2.2.set i6 (p9, .inr (0, [.int (f2 + 1), f8, .int f9])))) g15) rfl in_Jx4a65c (by decide) wf_Jx4a65c_9 rfl dJx4a65c_add_9ea2d_13 ?_
  refine z_aload_n b dJx4a65c_add_9ea2d_16 rfl rfl ?_
  obtain ⟨i16, f17, f18, f19, g20, h⟩ := h
  refine z_get (q0 := 47 + i16) (k9 := 2) (v := .int f19) b (kw_dyn cy a rw (ksL S (S.2.2.2.set i6 (p9, .inr (0, [.int (f2 + 1), f8, .int f9])))) g20) rfl in_Jx4a65c (by decide) wf_Jx4a65c_48 rfl dJx4a65c_add_9ea2d_17 ?_
  obtain ⟨m21, m22, g23, h⟩ := h
  obtain ⟨i24, f25, g26, h⟩ := h
  refine z_callv b (z_runV (q0 := 47 + i24) (As := [.ref p0, .ref f13, .int f19]) (st := []) b (k_Jx4a65c_add_72be8_X1 hrw (ksL S (S.2.2.2.set i6 (p9, .inr (0, [.int (f2 + 1), f8, .int f9])))) p9 p0 f13 f19 _ h) cf_Jx4a65c_add_72be8 (kw_dyn cy a rw (ksL S (S.2.2.2.set i6 (p9, .inr (0, [.int (f2 + 1), f8, .int f9])))) g26) rfl wm_Jx4a65c_131 wi_Jx4a65c_add_72be8 ws_Jx4a65c_add_72be8 dJx4a65c_add_9ea2d_20 rfl (Nat.le_of_ble_eq_true rfl) ⟨by decide, by decide, g23.1, g23.2⟩) (fun S28 h => ?_)
  refine z_iconst (v := 1) b dJx4a65c_add_9ea2d_23 (by decide) ?_
  obtain ⟨g29, h⟩ := h
  exact z_zret (u := S28) b rfl (by decide) dJx4a65c_add_9ea2d_24 h rfl g29.1 g29.2

def w_X11_never_B29 (cy : Nat → ClassId) (tE : Nat) (mc ms : Nat) (post : Int32 → KS → Prop) (S : KS) (nc : Nat) (ns : Nat) : Prop :=
  (nc ≤ mc ∧ ns ≤ ms) ∧ post (-1) S

set_option maxHeartbeats 200000 in
set_option maxRecDepth 100000 in
theorem z_X11_never_B29 {p : Program} {l : Launch} {e : Env} {R : Room} {s : State} {m : MethodId} {args : Array Value} {below : List Frame} {meth : Method} {c : Code} {D : va_G} {cy : Nat → ClassId} {T0 tB tE : Nat} {A : Nat → Prop} {a : Nat → Nat} {rw : Nat → Option Nat} (hrw : ∀ i, i < 6 → rw i = some (a (12 + 2 * i))) {mc ms : Nat} {post : Int32 → KS → Prop} (b : Bz p R s m args meth c D cy T0 tB tE A 1 cX11_never RX11 (some .int) "never" 37 845 mc ms) (S : KS) (nc : Nat) (ns : Nat) (h : w_X11_never_B29 cy tE mc ms post S nc ns) : Z p l e R s m args below meth c D A 1 (MQ below (QI D (U := KS) post (kw cy a rw) A) args s mc ms A) nc ns (kw cy a rw S) [] 29 [] := by
  unfold w_X11_never_B29 at h
  refine z_iconst (v := (-1)) b dX11_never_29 (by decide) ?_
  obtain ⟨g10, h⟩ := h
  exact z_iret (u := S) b rfl dX11_never_30 h rfl g10.1 g10.2

def w_X11_never (cy : Nat → ClassId) (tE : Nat) (mc ms : Nat) (S : KS)  (post : Int32 → KS → Prop) : Prop :=
  (0 ≤ mc ∧ 0 ≤ ms) ∧ w_X11_takeTape cy tE S (fun S3 => (0 ≤ mc ∧ 0 ≤ ms) ∧ ∃ (i5 : Nat) (f6 : List Value), S3.2.2.2[i5]? = some ((S3.2.1 1), .inr (0, f6)) ∧ w_Jx4a65c_size_8abf5 cy tE S3 (S3.2.1 1) (fun r8 S9 => ((6 ≤ r8.toInt → w_X11_never_B29 cy tE mc ms post S9 0 0) ∧ (r8.toInt < 6 → (0 ≤ mc ∧ 0 ≤ ms) ∧ w_X5_readCondition cy tE S9 (fun r12 S13 => ((r12.toInt ≠ 0 → ∃ m14 m15 : Nat, (0 + m14 ≤ mc ∧ 0 + m15 ≤ ms) ∧ w_X5_clause cy tE m14 m15 S13 5 0 (fun r17 S18 => ∃ q19 : Nat, r17 = some q19 ∧ ∃ m21 m22 : Nat, ((0 + m14) + m21 ≤ mc ∧ (0 + m15) + m22 ≤ ms) ∧ ∃ (i24 : Nat) (f25 : List Value), S18.2.2.2[i24]? = some ((S13.2.1 1), .inr (0, f25)) ∧ w_Jx4a65c_add_9ea2d_X1 cy tE m21 m22 S18 (S13.2.1 1) q19 (fun r27 S28 => (((0 + m14) + m21) ≤ mc ∧ ((0 + m15) + m22) ≤ ms) ∧ ∃ (i30 : Nat) (f31 : List Value), S28.2.2.2[i30]? = some ((S28.2.1 1), .inr (0, f31)) ∧ w_Jx4a65c_size_8abf5 cy tE S28 (S28.2.1 1) (fun r33 S34 => (((0 + m14) + m21) ≤ mc ∧ ((0 + m15) + m22) ≤ ms) ∧ post (r33 - 1) S34)))) ∧ (r12.toInt = 0 → w_X11_never_B29 cy tE mc ms post S13 0 0)))))))

set_option maxHeartbeats 200000 in
set_option maxRecDepth 100000 in
theorem k_X11_never {l : Launch} {D : va_G} {cy : Nat → ClassId} {T0 tB tE : Nat} {a : Nat → Nat} {rw : Nat → Option Nat} (hrw : ∀ i, i < 6 → rw i = some (a (12 + 2 * i))) {mc ms : Nat} (S : KS)  (post : Int32 → KS → Prop) (h : w_X11_never cy tE mc ms S  post) : Ct l D cy T0 tB tE yX11_never cX11_never 1 (some .int) 37 845 mc ms (kw cy a rw S) [.ref (a 0)] (QI D (U := KS) post (kw cy a rw)) := by
  refine Ct.ofZ RX11 "never" [(0, .ref (a 0))] rfl rfl rfl rfl (Nat.le_of_ble_eq_true rfl) ?_
  intro p e R s m args below meth c A b
  unfold w_X11_never at h
  refine z_aload_n b dX11_never_0 rfl rfl ?_
  obtain ⟨g1, h⟩ := h
  refine z_callv b (z_runV (q0 := 0) (As := []) (st := []) b (k_X11_takeTape hrw S _ h) cf_X11_takeTape (kw_0 cy a rw S) rfl wm_X11_93 wi_X11_takeTape ws_X11_takeTape dX11_never_1 rfl (Nat.le_of_ble_eq_true rfl) ⟨by decide, by decide, g1.1, g1.2⟩) (fun S3 h => ?_)
  refine z_aload_n b dX11_never_4 rfl rfl ?_
  refine z_get (q0 := 0) (k9 := 3) (v := .ref (a 33)) b (kw_0 cy a rw S3) rfl in_X11 (by decide) wf_X11_27 rfl dX11_never_5 ?_
  refine z_get (q0 := 33) (k9 := 1) (v := .ref (S3.2.1 1)) b (kw_33 cy a rw S3) rfl in_X4 (by decide) wf_X11_122 rfl dX11_never_8 ?_
  obtain ⟨g4, h⟩ := h
  obtain ⟨i5, f6, g7, h⟩ := h
  refine z_calli b (z_runV (q0 := 47 + i5) (As := []) (st := []) b (k_Jx4a65c_size_8abf5 hrw S3 (S3.2.1 1) _ h) cf_Jx4a65c_size_8abf5 (kw_dyn cy a rw S3 g7) rfl wm_X11_117 wi_Jx4a65c_size_8abf5 ws_Jx4a65c_size_8abf5 dX11_never_11 rfl (Nat.le_of_ble_eq_true rfl) ⟨by decide, by decide, g4.1, g4.2⟩) (fun r8 S9 h => ?_)
  refine z_bipush (v := 6) b dX11_never_14 (by decide) ?_
  refine y_icmp_ge (tgt := 29) (xl := r8.toInt) (yl := 6) b rfl (by decide) dX11_never_16 (by decide) (fun c1 => ?_) (fun c1 => ?_)
  · replace h := h.1 c1
    refine z_lv0 (lv' := []) [] rfl ?_
    exact z_X11_never_B29 hrw b _ _ _ h
  · replace h := h.2 c1
    refine z_aload_n b dX11_never_19 rfl rfl ?_
    refine z_get (q0 := 0) (k9 := 2) (v := .ref (a 26)) b (kw_0 cy a rw S9) rfl in_X11 (by decide) wf_X11_20 rfl dX11_never_20 ?_
    obtain ⟨g11, h⟩ := h
    refine z_calli b (z_runV (q0 := 26) (As := []) (st := []) b (k_X5_readCondition hrw S9 _ h) cf_X5_readCondition (kw_26 cy a rw S9) rfl wm_X11_125 wi_X5_readCondition ws_X5_readCondition dX11_never_23 rfl (Nat.le_of_ble_eq_true rfl) ⟨by decide, by decide, g11.1, g11.2⟩) (fun r12 S13 h => ?_)
    refine y_if_ne (tgt := 31) (xl := r12.toInt) b rfl dX11_never_26 (by decide) (fun c1 => ?_) (fun c1 => ?_)
    · replace h := h.1 c1
      refine z_aload_n b dX11_never_31 rfl rfl ?_
      refine z_get (q0 := 0) (k9 := 3) (v := .ref (a 33)) b (kw_0 cy a rw S13) rfl in_X11 (by decide) wf_X11_27 rfl dX11_never_32 ?_
      refine z_get (q0 := 33) (k9 := 1) (v := .ref (S13.2.1 1)) b (kw_33 cy a rw S13) rfl in_X4 (by decide) wf_X11_122 rfl dX11_never_35 ?_
      refine z_aload_n b dX11_never_38 rfl rfl ?_
      refine z_get (q0 := 0) (k9 := 2) (v := .ref (a 26)) b (kw_0 cy a rw S13) rfl in_X11 (by decide) wf_X11_20 rfl dX11_never_39 ?_
      refine z_iconst (v := 5) b dX11_never_42 (by decide) ?_
      refine z_iconst (v := 0) b dX11_never_43 (by decide) ?_
      obtain ⟨m14, m15, g16, h⟩ := h
      refine z_callq b (z_runV (q0 := 26) (As := [.int 5, .int 0]) (st := [.ref (S13.2.1 1)]) b (k_X5_clause hrw S13 5 0 _ h) cf_X5_clause (kw_26 cy a rw S13) rfl wm_X11_128 wi_X5_clause ws_X5_clause dX11_never_44 rfl (Nat.le_of_ble_eq_true rfl) ⟨by decide, by decide, g16.1, g16.2⟩) (fun r17 S18 h => ?_)
      obtain ⟨q19, g20, h⟩ := h
      subst g20
      obtain ⟨m21, m22, g23, h⟩ := h
      obtain ⟨i24, f25, g26, h⟩ := h
      refine z_calli b (z_runV (q0 := 47 + i24) (As := [.ref q19]) (st := []) b (k_Jx4a65c_add_9ea2d_X1 hrw S18 (S13.2.1 1) q19 _ h) cf_Jx4a65c_add_9ea2d (kw_dyn cy a rw S18 g26) rfl wm_X11_132 wi_Jx4a65c_add_9ea2d ws_Jx4a65c_add_9ea2d dX11_never_47 rfl (Nat.le_of_ble_eq_true rfl) ⟨by decide, by decide, g23.1, g23.2⟩) (fun r27 S28 h => ?_)
      refine z_pop b dX11_never_50 rfl ?_
      refine z_aload_n b dX11_never_51 rfl rfl ?_
      refine z_get (q0 := 0) (k9 := 3) (v := .ref (a 33)) b (kw_0 cy a rw S28) rfl in_X11 (by decide) wf_X11_27 rfl dX11_never_52 ?_
      refine z_get (q0 := 33) (k9 := 1) (v := .ref (S28.2.1 1)) b (kw_33 cy a rw S28) rfl in_X4 (by decide) wf_X11_122 rfl dX11_never_55 ?_
      obtain ⟨g29, h⟩ := h
      obtain ⟨i30, f31, g32, h⟩ := h
      refine z_calli b (z_runV (q0 := 47 + i30) (As := []) (st := []) b (k_Jx4a65c_size_8abf5 hrw S28 (S28.2.1 1) _ h) cf_Jx4a65c_size_8abf5 (kw_dyn cy a rw S28 g32) rfl wm_X11_117 wi_Jx4a65c_size_8abf5 ws_Jx4a65c_size_8abf5 dX11_never_58 rfl (Nat.le_of_ble_eq_true rfl) ⟨by decide, by decide, g29.1, g29.2⟩) (fun r33 S34 h => ?_)
      refine z_iconst (v := 1) b dX11_never_61 (by decide) ?_
      refine z_isub b dX11_never_62 rfl ?_
      obtain ⟨g35, h⟩ := h
      exact z_iret (u := S34) b rfl dX11_never_63 h rfl g35.1 g35.2
    · replace h := h.2 c1
      refine z_lv0 (lv' := []) [] rfl ?_
      exact z_X11_never_B29 hrw b _ _ _ h

def w_X8_wealth_B48 (cy : Nat → ClassId) (tE : Nat) (post : Int32 → KS → Prop) (k17 : KS → Int32 → Int32 → Int32 → Prop) (k54 : KS → Int32 → Prop) (S : KS) (x2 : Int32) (x3 : Int32) (x4 : Int32) : Prop :=
  k17 S x2 x3 (x4 + 1)

set_option maxHeartbeats 200000 in
set_option maxRecDepth 100000 in
theorem z_X8_wealth_B48 {p : Program} {l : Launch} {e : Env} {R : Room} {s : State} {m : MethodId} {args : Array Value} {below : List Frame} {meth : Method} {c : Code} {D : va_G} {cy : Nat → ClassId} {T0 tB tE : Nat} {A : Nat → Prop} {a : Nat → Nat} {rw : Nat → Option Nat} (hrw : ∀ i, i < 6 → rw i = some (a (12 + 2 * i))) {post : Int32 → KS → Prop} {k17 : KS → Int32 → Int32 → Int32 → Prop} {k54 : KS → Int32 → Prop} (b : Bz p R s m args meth c D cy T0 tB tE A 5 cX8_wealth RX8 (some .int) "wealth" 3 68 0 0) (hk17 : ∀ (S : KS) (x2 : Int32) (x3 : Int32) (x4 : Int32), k17 S x2 x3 x4 → Z p l e R s m args below meth c D A 5 (MQ below (QI D (U := KS) post (kw cy a rw) A) args s 0 0 A) 0 0 (kw cy a rw S) [(0, .ref (a 38)), (2, .int x2), (3, .int x3), (4, .int x4)] 17 []) (hk54 : ∀ (S : KS) (x3 : Int32), k54 S x3 → Z p l e R s m args below meth c D A 5 (MQ below (QI D (U := KS) post (kw cy a rw) A) args s 0 0 A) 0 0 (kw cy a rw S) [(3, .int x3)] 54 []) (S : KS) (x2 : Int32) (x3 : Int32) (x4 : Int32) (h : w_X8_wealth_B48 cy tE post k17 k54 S x2 x3 x4) : Z p l e R s m args below meth c D A 5 (MQ below (QI D (U := KS) post (kw cy a rw) A) args s 0 0 A) 0 0 (kw cy a rw S) [(0, .ref (a 38)), (2, .int x2), (3, .int x3), (4, .int x4)] 48 [] := by
  unfold w_X8_wealth_B48 at h
  refine z_iinc (k9 := 3) (v := (x4 + 1)) (lv' := [(4, .int (x4 + 1)), (0, .ref (a 38)), (2, .int x2), (3, .int x3)]) b dX8_wealth_48 rfl rfl (by decide) rfl ?_
  refine z_goto (tgt := 17) b dX8_wealth_51 (by decide) ?_
  refine z_lv0 (lv' := [(0, .ref (a 38)), (2, .int x2), (3, .int x3), (4, .int (x4 + 1))]) [1, 2, 3, 0] rfl ?_
  exact hk17 _ _ _ _ h

def w_X8_wealth_F17 (cy : Nat → ClassId) (tE : Nat) (post : Int32 → KS → Prop) (k54 : KS → Int32 → Prop) (k17 : KS → Int32 → Int32 → Int32 → Prop) (S : KS) (x2 : Int32) (x3 : Int32) (x4 : Int32) : Prop :=
  ((3 ≤ x4.toInt → k54 S x3) ∧ (x4.toInt < 3 → ((x4.toInt = x2.toInt → w_X8_wealth_B48 cy tE post k17 k54 S x2 x3 x4) ∧ (x4.toInt ≠ x2.toInt → w_X9_get cy tE S 4 (((10 : Int32) + ((3 : Int32) * x2)) + x4) (fun r5 S6 => w_X8_wealth_B48 cy tE post k17 k54 S6 x2 (x3 - r5) x4)))))

set_option maxHeartbeats 200000 in
set_option maxRecDepth 100000 in
theorem z_X8_wealth_F17 {p : Program} {l : Launch} {e : Env} {R : Room} {s : State} {m : MethodId} {args : Array Value} {below : List Frame} {meth : Method} {c : Code} {D : va_G} {cy : Nat → ClassId} {T0 tB tE : Nat} {A : Nat → Prop} {a : Nat → Nat} {rw : Nat → Option Nat} (hrw : ∀ i, i < 6 → rw i = some (a (12 + 2 * i))) {post : Int32 → KS → Prop} {k54 : KS → Int32 → Prop} {k17 : KS → Int32 → Int32 → Int32 → Prop} (b : Bz p R s m args meth c D cy T0 tB tE A 5 cX8_wealth RX8 (some .int) "wealth" 3 68 0 0) (hk54 : ∀ (S : KS) (x3 : Int32), k54 S x3 → Z p l e R s m args below meth c D A 5 (MQ below (QI D (U := KS) post (kw cy a rw) A) args s 0 0 A) 0 0 (kw cy a rw S) [(3, .int x3)] 54 []) (hk17 : ∀ (S : KS) (x2 : Int32) (x3 : Int32) (x4 : Int32), k17 S x2 x3 x4 → Z p l e R s m args below meth c D A 5 (MQ below (QI D (U := KS) post (kw cy a rw) A) args s 0 0 A) 0 0 (kw cy a rw S) [(0, .ref (a 38)), (2, .int x2), (3, .int x3), (4, .int x4)] 17 []) (S : KS) (x2 : Int32) (x3 : Int32) (x4 : Int32) (h : w_X8_wealth_F17 cy tE post k54 k17 S x2 x3 x4) : Z p l e R s m args below meth c D A 5 (MQ below (QI D (U := KS) post (kw cy a rw) A) args s 0 0 A) 0 0 (kw cy a rw S) [(0, .ref (a 38)), (2, .int x2), (3, .int x3), (4, .int x4)] 17 [] := by
  unfold w_X8_wealth_F17 at h
  refine z_iload b dX8_wealth_17 rfl ?_
  refine z_iconst (v := 3) b dX8_wealth_19 (by decide) ?_
  refine y_icmp_ge (tgt := 54) (xl := x4.toInt) (yl := 3) b rfl (by decide) dX8_wealth_20 (by decide) (fun c1 => ?_) (fun c1 => ?_)
  · replace h := h.1 c1
    refine z_lv0 (lv' := [(3, .int x3)]) [2] rfl ?_
    exact hk54 _ _ h
  · replace h := h.2 c1
    refine z_iload b dX8_wealth_23 rfl ?_
    refine z_iload_n b dX8_wealth_25 rfl rfl ?_
    refine y_icmp_eq (tgt := 48) (xl := x4.toInt) (yl := x2.toInt) b rfl rfl dX8_wealth_26 (by decide) (fun c1 => ?_) (fun c1 => ?_)
    · replace h := h.1 c1
      exact z_X8_wealth_B48 hrw b hk17 hk54 _ _ _ _ h
    · replace h := h.2 c1
      refine z_iload_n b dX8_wealth_29 rfl rfl ?_
      refine z_aload_n b dX8_wealth_30 rfl rfl ?_
      refine z_get (q0 := 38) (k9 := 2) (v := .ref (a 10)) b (kw_38 cy a rw S) rfl in_X8 (by decide) wf_X8_12 rfl dX8_wealth_31 ?_
      refine z_bipush (v := 10) b dX8_wealth_34 (by decide) ?_
      refine z_iconst (v := 3) b dX8_wealth_36 (by decide) ?_
      refine z_iload_n b dX8_wealth_37 rfl rfl ?_
      refine z_imul b dX8_wealth_38 rfl ?_
      refine z_iadd b dX8_wealth_39 rfl ?_
      refine z_iload b dX8_wealth_40 rfl ?_
      refine z_iadd b dX8_wealth_42 rfl ?_
      refine z_calli b (z_runV (q0 := 10) (As := [.int (((10 : Int32) + ((3 : Int32) * x2)) + x4)]) (st := [.int x3]) b (k_X9_get hrw S 4 (((10 : Int32) + ((3 : Int32) * x2)) + x4) _ h) cf_X9_get (kw_10 cy a rw S) rfl wm_X8_161 wi_X9_get ws_X9_get dX8_wealth_43 rfl (Nat.le_of_ble_eq_true rfl) ⟨by decide, by decide, Nat.le_of_ble_eq_true rfl, Nat.le_of_ble_eq_true rfl⟩) (fun r5 S6 h => ?_)
      refine z_isub b dX8_wealth_46 rfl ?_
      refine z_istore_n (lv' := [(3, .int (x3 - r5)), (0, .ref (a 38)), (2, .int x2), (4, .int x4)]) b dX8_wealth_47 rfl (by decide) rfl ?_
      refine z_lv0 (lv' := [(0, .ref (a 38)), (2, .int x2), (3, .int (x3 - r5)), (4, .int x4)]) [1, 2, 0, 3] rfl ?_
      exact z_X8_wealth_B48 hrw b hk17 hk54 _ _ _ _ h

set_option maxHeartbeats 200000 in
set_option maxRecDepth 100000 in
theorem zl_X8_wealth_L17 {p : Program} {l : Launch} {e : Env} {R : Room} {s : State} {m : MethodId} {args : Array Value} {below : List Frame} {meth : Method} {c : Code} {D : va_G} {cy : Nat → ClassId} {T0 tB tE : Nat} {A : Nat → Prop} {a : Nat → Nat} {rw : Nat → Option Nat} (hrw : ∀ i, i < 6 → rw i = some (a (12 + 2 * i))) {post : Int32 → KS → Prop} {k54 : KS → Int32 → Prop} (b : Bz p R s m args meth c D cy T0 tB tE A 5 cX8_wealth RX8 (some .int) "wealth" 3 68 0 0) (hk54 : ∀ (S : KS) (x3 : Int32), k54 S x3 → Z p l e R s m args below meth c D A 5 (MQ below (QI D (U := KS) post (kw cy a rw) A) args s 0 0 A) 0 0 (kw cy a rw S) [(3, .int x3)] 54 []) : ∀ (n : Nat) (S : KS) (x2 : Int32) (x3 : Int32) (x4 : Int32), lpn (w_X8_wealth_F17 cy tE post k54) (fun _ _ _ _ => False) n S x2 x3 x4 → Z p l e R s m args below meth c D A 5 (MQ below (QI D (U := KS) post (kw cy a rw) A) args s 0 0 A) 0 0 (kw cy a rw S) [(0, .ref (a 38)), (2, .int x2), (3, .int x3), (4, .int x4)] 17 [] := by
  intro n
  induction n with
  | zero => intro _ _ _ _ h; exact h.elim
  | succ n ih => intro S x2 x3 x4 h; exact z_X8_wealth_F17 hrw b hk54 ih S x2 x3 x4 h

def w_X8_wealth_B54 (cy : Nat → ClassId) (tE : Nat) (post : Int32 → KS → Prop) (S : KS) (x3 : Int32) : Prop :=
  post x3 S

set_option maxHeartbeats 200000 in
set_option maxRecDepth 100000 in
theorem z_X8_wealth_B54 {p : Program} {l : Launch} {e : Env} {R : Room} {s : State} {m : MethodId} {args : Array Value} {below : List Frame} {meth : Method} {c : Code} {D : va_G} {cy : Nat → ClassId} {T0 tB tE : Nat} {A : Nat → Prop} {a : Nat → Nat} {rw : Nat → Option Nat} (hrw : ∀ i, i < 6 → rw i = some (a (12 + 2 * i))) {post : Int32 → KS → Prop} (b : Bz p R s m args meth c D cy T0 tB tE A 5 cX8_wealth RX8 (some .int) "wealth" 3 68 0 0) (S : KS) (x3 : Int32) (h : w_X8_wealth_B54 cy tE post S x3) : Z p l e R s m args below meth c D A 5 (MQ below (QI D (U := KS) post (kw cy a rw) A) args s 0 0 A) 0 0 (kw cy a rw S) [(3, .int x3)] 54 [] := by
  unfold w_X8_wealth_B54 at h
  refine z_iload_n b dX8_wealth_54 rfl rfl ?_
  exact z_iret (u := S) b rfl dX8_wealth_55 h rfl (by decide) (by decide)

