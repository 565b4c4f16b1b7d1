def w_X8_grow (cy : Nat → ClassId) (tE : Nat) (S : KS)  (post : Int32 → KS → Prop) : Prop :=
  (((fi S.1 34).toInt ≠ 0 → w_X8_grow_B34 cy tE post S) ∧ ((fi S.1 34).toInt = 0 → (((fi S.1 33).toInt ≤ (fi S.1 31).toInt → w_X8_grow_B34 cy tE post S) ∧ ((fi S.1 31).toInt < (fi S.1 33).toInt → (0 ≤ (fi S.1 31).toInt ∧ (fi S.1 31).toInt < 400) ∧ ((((ar S.1 17) (fi S.1 31).toNatClampNeg).toInt < (fi S.1 28).toInt → (0 ≤ (fi S.1 31).toInt ∧ (fi S.1 31).toInt < 400) ∧ w_X9_unpack cy tE S 4 ((al S.1 2) (fi S.1 31).toNatClampNeg) (fun S4 => ∃ n, lpn (w_X8_grow_F54 cy tE post (w_X8_grow_B130 cy tE post)) (fun _ _ => False) n S4 0)) ∧ ((fi S.1 28).toInt ≤ ((ar S.1 17) (fi S.1 31).toNatClampNeg).toInt → w_X8_grow_B34 cy tE post S))))))

set_option maxHeartbeats 200000 in
set_option maxRecDepth 100000 in
theorem k_X8_grow {l : Launch} {D : va_G} {cy : Nat → ClassId} {T0 tB tE : Nat} {a : Nat → Nat} {rw : Nat → Option Nat} (hrw : ∀ i, i < 6 → rw i = some (a (12 + 2 * i))) (S : KS)  (post : Int32 → KS → Prop) (h : w_X8_grow cy tE S  post) : Ct l D cy T0 tB tE yX8_grow cX8_grow 2 (some .boolean) 4 101 0 0 (kw cy a rw S) [.ref (a 38)] (QI D (U := KS) post (kw cy a rw)) := by
  refine Ct.ofZ RX8 "grow" [(0, .ref (a 38))] rfl rfl rfl rfl (Nat.le_of_ble_eq_true rfl) ?_
  intro p e R s m args below meth c A b
  unfold w_X8_grow at h
  refine z_aload_n b dX8_grow_0 rfl rfl ?_
  refine z_get (q0 := 38) (k9 := 18) (v := .int (fi S.1 34)) b (kw_38 cy a rw S) rfl in_X8 (by decide) wf_X8_67 rfl dX8_grow_1 ?_
  refine y_if_ne (tgt := 34) (xl := (fi S.1 34).toInt) b rfl dX8_grow_4 (by decide) (fun c1 => ?_) (fun c1 => ?_)
  · replace h := h.1 c1
    refine z_lv0 (lv' := []) [] rfl ?_
    exact z_X8_grow_B34 hrw b _ h
  · replace h := h.2 c1
    refine z_aload_n b dX8_grow_7 rfl rfl ?_
    refine z_get (q0 := 38) (k9 := 15) (v := .int (fi S.1 31)) b (kw_38 cy a rw S) rfl in_X8 (by decide) wf_X8_57 rfl dX8_grow_8 ?_
    refine z_aload_n b dX8_grow_11 rfl rfl ?_
    refine z_get (q0 := 38) (k9 := 17) (v := .int (fi S.1 33)) b (kw_38 cy a rw S) rfl in_X8 (by decide) wf_X8_64 rfl dX8_grow_12 ?_
    refine y_icmp_ge (tgt := 34) (xl := (fi S.1 31).toInt) (yl := (fi S.1 33).toInt) b rfl rfl dX8_grow_15 (by decide) (fun c1 => ?_) (fun c1 => ?_)
    · replace h := h.1 c1
      refine z_lv0 (lv' := []) [] rfl ?_
      exact z_X8_grow_B34 hrw b _ h
    · replace h := h.2 c1
      refine z_aload_n b dX8_grow_18 rfl rfl ?_
      refine z_get (q0 := 38) (k9 := 4) (v := .ref (a 40)) b (kw_38 cy a rw S) rfl in_X8 (by decide) wf_X8_22 rfl dX8_grow_19 ?_
      refine z_aload_n b dX8_grow_22 rfl rfl ?_
      refine z_get (q0 := 38) (k9 := 15) (v := .int (fi S.1 31)) b (kw_38 cy a rw S) rfl in_X8 (by decide) wf_X8_57 rfl dX8_grow_23 ?_
      obtain ⟨g1, h⟩ := h
      refine y_iald (q0 := 40) (j := (fi S.1 31).toNatClampNeg) (v := ((ar S.1 17) (fi S.1 31).toNatClampNeg)) b (kw_40 cy a rw S) (zx_r g1.1 g1.2) rfl dX8_grow_26 ?_
      refine z_aload_n b dX8_grow_27 rfl rfl ?_
      refine z_get (q0 := 38) (k9 := 12) (v := .int (fi S.1 28)) b (kw_38 cy a rw S) rfl in_X8 (by decide) wf_X8_48 rfl dX8_grow_28 ?_
      refine y_icmp_lt (tgt := 36) (xl := ((ar S.1 17) (fi S.1 31).toNatClampNeg).toInt) (yl := (fi S.1 28).toInt) b rfl rfl dX8_grow_31 (by decide) (fun c1 => ?_) (fun c1 => ?_)
      · replace h := h.1 c1
        refine z_aload_n b dX8_grow_36 rfl rfl ?_
        refine z_get (q0 := 38) (k9 := 2) (v := .ref (a 10)) b (kw_38 cy a rw S) rfl in_X8 (by decide) wf_X8_12 rfl dX8_grow_37 ?_
        refine z_aload_n b dX8_grow_40 rfl rfl ?_
        refine z_get (q0 := 38) (k9 := 3) (v := .ref (a 39)) b (kw_38 cy a rw S) rfl in_X8 (by decide) wf_X8_18 rfl dX8_grow_41 ?_
        refine z_aload_n b dX8_grow_44 rfl rfl ?_
        refine z_get (q0 := 38) (k9 := 15) (v := .int (fi S.1 31)) b (kw_38 cy a rw S) rfl in_X8 (by decide) wf_X8_57 rfl dX8_grow_45 ?_
        obtain ⟨g2, h⟩ := h
        refine y_lald (q0 := 39) (j := (fi S.1 31).toNatClampNeg) (v := ((al S.1 2) (fi S.1 31).toNatClampNeg)) b (kw_39 cy a rw S) (zx_r g2.1 g2.2) rfl dX8_grow_48 ?_
        refine z_callv b (z_runV (q0 := 10) (As := [.long ((al S.1 2) (fi S.1 31).toNatClampNeg)]) (st := []) b (k_X9_unpack hrw S 4 ((al S.1 2) (fi S.1 31).toNatClampNeg) _ h) cf_X9_unpack (kw_10 cy a rw S) rfl wm_X8_122 wi_X9_unpack ws_X9_unpack dX8_grow_49 rfl (Nat.le_of_ble_eq_true rfl) ⟨by decide, by decide, Nat.le_of_ble_eq_true rfl, Nat.le_of_ble_eq_true rfl⟩) (fun S4 h => ?_)
        refine z_iconst (v := 0) b dX8_grow_52 (by decide) ?_
        refine z_istore_n (lv' := [(1, .int 0), (0, .ref (a 38))]) b dX8_grow_53 rfl (by decide) rfl ?_
        refine z_lv0 (lv' := [(0, .ref (a 38)), (1, .int 0)]) [1, 0] rfl ?_
        obtain ⟨n, h⟩ := h
        exact zl_X8_grow_L54 hrw b (fun S h => z_X8_grow_B130 hrw b _ h) n _ _ h
      · replace h := h.2 c1
        refine z_lv0 (lv' := []) [] rfl ?_
        exact z_X8_grow_B34 hrw b _ h

def w_X8_finish_F4 (cy : Nat → ClassId) (tE : Nat) (post : KS → Prop) (k26 : KS → Prop) (k4 : KS → Int32 → Int32 → Prop) (S : KS) (x1 : Int32) (x2 : Int32) : Prop :=
  ((400 < x2.toInt → k26 S) ∧ (x2.toInt ≤ 400 → ((x1.toInt = 0 → k26 S) ∧ (x1.toInt ≠ 0 → w_X8_grow cy tE S (fun r1 S2 => k4 S2 r1 (x2 + 1))))))

set_option maxHeartbeats 200000 in
set_option maxRecDepth 100000 in
theorem z_X8_finish_F4 {p : Program} {l : Launch} {e : Env} {R : Room} {s : State} {m : MethodId} {args : Array Value} {below : List Frame} {meth : Method} {c : Code} {D : va_G} {cy : Nat → ClassId} {T0 tB tE : Nat} {A : Nat → Prop} {a : Nat → Nat} {rw : Nat → Option Nat} (hrw : ∀ i, i < 6 → rw i = some (a (12 + 2 * i))) {post : KS → Prop} {k26 : KS → Prop} {k4 : KS → Int32 → Int32 → Prop} (b : Bz p R s m args meth c D cy T0 tB tE A 3 cX8_finish RX8 none "finish" 5 122 0 0) (hk26 : ∀ (S : KS), k26 S → Z p l e R s m args below meth c D A 3 (MQ below (QV D (U := KS) post (kw cy a rw) A) args s 0 0 A) 0 0 (kw cy a rw S) [] 26 []) (hk4 : ∀ (S : KS) (x1 : Int32) (x2 : Int32), k4 S x1 x2 → Z p l e R s m args below meth c D A 3 (MQ below (QV D (U := KS) post (kw cy a rw) A) args s 0 0 A) 0 0 (kw cy a rw S) [(0, .ref (a 38)), (1, .int x1), (2, .int x2)] 4 []) (S : KS) (x1 : Int32) (x2 : Int32) (h : w_X8_finish_F4 cy tE post k26 k4 S x1 x2) : Z p l e R s m args below meth c D A 3 (MQ below (QV D (U := KS) post (kw cy a rw) A) args s 0 0 A) 0 0 (kw cy a rw S) [(0, .ref (a 38)), (1, .int x1), (2, .int x2)] 4 [] := by
  unfold w_X8_finish_F4 at h
  refine z_iload_n b dX8_finish_4 rfl rfl ?_
  refine z_sipush (v := 400) b dX8_finish_5 (by decide) ?_
  refine y_icmp_gt (tgt := 26) (xl := x2.toInt) (yl := 400) b rfl (by decide) dX8_finish_8 (by decide) (fun c1 => ?_) (fun c1 => ?_)
  · replace h := h.1 c1
    refine z_lv0 (lv' := []) [] rfl ?_
    exact hk26 _ h
  · replace h := h.2 c1
    refine z_iload_n b dX8_finish_11 rfl rfl ?_
    refine y_if_eq (tgt := 26) (xl := x1.toInt) b rfl dX8_finish_12 (by decide) (fun c1 => ?_) (fun c1 => ?_)
    · replace h := h.1 c1
      refine z_lv0 (lv' := []) [] rfl ?_
      exact hk26 _ h
    · replace h := h.2 c1
      refine z_aload_n b dX8_finish_15 rfl rfl ?_
      refine z_calli b (z_runV (q0 := 38) (As := []) (st := []) b (k_X8_grow hrw S _ h) cf_X8_grow (kw_38 cy a rw S) rfl wm_X8_133 wi_X8_grow ws_X8_grow dX8_finish_16 rfl (Nat.le_of_ble_eq_true rfl) ⟨by decide, by decide, Nat.le_of_ble_eq_true rfl, Nat.le_of_ble_eq_true rfl⟩) (fun r1 S2 h => ?_)
      refine z_istore_n (lv' := [(1, .int r1), (0, .ref (a 38)), (2, .int x2)]) b dX8_finish_19 rfl (by decide) rfl ?_
      refine z_iinc (k9 := 2) (v := (x2 + 1)) (lv' := [(2, .int (x2 + 1)), (1, .int r1), (0, .ref (a 38))]) b dX8_finish_20 rfl rfl (by decide) rfl ?_
      refine z_goto (tgt := 4) b dX8_finish_23 (by decide) ?_
      refine z_lv0 (lv' := [(0, .ref (a 38)), (1, .int r1), (2, .int (x2 + 1))]) [2, 1, 0] rfl ?_
      exact hk4 _ _ _ h

set_option maxHeartbeats 200000 in
set_option maxRecDepth 100000 in
theorem zl_X8_finish_L4 {p : Program} {l : Launch} {e : Env} {R : Room} {s : State} {m : MethodId} {args : Array Value} {below : List Frame} {meth : Method} {c : Code} {D : va_G} {cy : Nat → ClassId} {T0 tB tE : Nat} {A : Nat → Prop} {a : Nat → Nat} {rw : Nat → Option Nat} (hrw : ∀ i, i < 6 → rw i = some (a (12 + 2 * i))) {post : KS → Prop} {k26 : KS → Prop} (b : Bz p R s m args meth c D cy T0 tB tE A 3 cX8_finish RX8 none "finish" 5 122 0 0) (hk26 : ∀ (S : KS), k26 S → Z p l e R s m args below meth c D A 3 (MQ below (QV D (U := KS) post (kw cy a rw) A) args s 0 0 A) 0 0 (kw cy a rw S) [] 26 []) : ∀ (n : Nat) (S : KS) (x1 : Int32) (x2 : Int32), lpn (w_X8_finish_F4 cy tE post k26) (fun _ _ _ => False) n S x1 x2 → Z p l e R s m args below meth c D A 3 (MQ below (QV D (U := KS) post (kw cy a rw) A) args s 0 0 A) 0 0 (kw cy a rw S) [(0, .ref (a 38)), (1, .int x1), (2, .int x2)] 4 [] := by
  intro n
  induction n with
  | zero => intro _ _ _ h; exact h.elim
  | succ n ih => intro S x1 x2 h; exact z_X8_finish_F4 hrw b hk26 ih S x1 x2 h

def w_X8_finish_B26 (cy : Nat → ClassId) (tE : Nat) (post : KS → Prop) (S : KS)  : Prop :=
  post S

set_option maxHeartbeats 200000 in
set_option maxRecDepth 100000 in
theorem z_X8_finish_B26 {p : Program} {l : Launch} {e : Env} {R : Room} {s : State} {m : MethodId} {args : Array Value} {below : List Frame} {meth : Method} {c : Code} {D : va_G} {cy : Nat → ClassId} {T0 tB tE : Nat} {A : Nat → Prop} {a : Nat → Nat} {rw : Nat → Option Nat} (hrw : ∀ i, i < 6 → rw i = some (a (12 + 2 * i))) {post : KS → Prop} (b : Bz p R s m args meth c D cy T0 tB tE A 3 cX8_finish RX8 none "finish" 5 122 0 0) (S : KS)  (h : w_X8_finish_B26 cy tE post S ) : Z p l e R s m args below meth c D A 3 (MQ below (QV D (U := KS) post (kw cy a rw) A) args s 0 0 A) 0 0 (kw cy a rw S) [] 26 [] := by
  unfold w_X8_finish_B26 at h
  exact z_vret (u := S) b rfl dX8_finish_26 h rfl (by decide) (by decide)

def w_X8_finish (cy : Nat → ClassId) (tE : Nat) (S : KS)  (post : KS → Prop) : Prop :=
  ∃ n, lpn (w_X8_finish_F4 cy tE post (w_X8_finish_B26 cy tE post)) (fun _ _ _ => False) n S 1 0

set_option maxHeartbeats 200000 in
set_option maxRecDepth 100000 in
theorem k_X8_finish {l : Launch} {D : va_G} {cy : Nat → ClassId} {T0 tB tE : Nat} {a : Nat → Nat} {rw : Nat → Option Nat} (hrw : ∀ i, i < 6 → rw i = some (a (12 + 2 * i))) (S : KS)  (post : KS → Prop) (h : w_X8_finish cy tE S  post) : Ct l D cy T0 tB tE yX8_finish cX8_finish 3 none 5 122 0 0 (kw cy a rw S) [.ref (a 38)] (QV D (U := KS) post (kw cy a rw)) := by
  refine Ct.ofZ RX8 "finish" [(0, .ref (a 38))] rfl rfl rfl rfl (Nat.le_of_ble_eq_true rfl) ?_
  intro p e R s m args below meth c A b
  unfold w_X8_finish at h
  refine z_iconst (v := 1) b dX8_finish_0 (by decide) ?_
  refine z_istore_n (lv' := [(1, .int 1), (0, .ref (a 38))]) b dX8_finish_1 rfl (by decide) rfl ?_
  refine z_iconst (v := 0) b dX8_finish_2 (by decide) ?_
  refine z_istore_n (lv' := [(2, .int 0), (1, .int 1), (0, .ref (a 38))]) b dX8_finish_3 rfl (by decide) rfl ?_
  refine z_lv0 (lv' := [(0, .ref (a 38)), (1, .int 1), (2, .int 0)]) [2, 1, 0] rfl ?_
  obtain ⟨n, h⟩ := h
  exact zl_X8_finish_L4 hrw b (fun S h => z_X8_finish_B26 hrw b _ h) n _ _ _ h

def w_X11_fault_B28 (cy : Nat → ClassId) (tE : Nat) (post : Int32 → KS → Prop) (S : KS) (y0 : Int32) : Prop :=
  post y0 S

set_option maxHeartbeats 200000 in
set_option maxRecDepth 100000 in
theorem z_X11_fault_B28 {p : Program} {l : Launch} {e : Env} {R : Room} {s : State} {m : MethodId} {args : Array Value} {below : List Frame} {meth : Method} {c : Code} {D : va_G} {cy : Nat → ClassId} {T0 tB tE : Nat} {A : Nat → Prop} {a : Nat → Nat} {rw : Nat → Option Nat} (hrw : ∀ i, i < 6 → rw i = some (a (12 + 2 * i))) {post : Int32 → KS → Prop} (b : Bz p R s m args meth c D cy T0 tB tE A 2 cX11_fault RX11 (some .int) "fault" 0 0 0 0) (S : KS) (y0 : Int32) (h : w_X11_fault_B28 cy tE post S y0) : Z p l e R s m args below meth c D A 2 (MQ below (QI D (U := KS) post (kw cy a rw) A) args s 0 0 A) 0 0 (kw cy a rw S) [] 28 [.int y0] := by
  unfold w_X11_fault_B28 at h
  exact z_iret (u := S) b rfl dX11_fault_28 h rfl (by decide) (by decide)

def w_X11_fault (cy : Nat → ClassId) (tE : Nat) (S : KS) (p0 : Int32) (post : Int32 → KS → Prop) : Prop :=
  ((p0.toInt ≠ 0 → ((p0.toInt ≠ 1 → w_X11_fault_B28 cy tE post S (-1)) ∧ (p0.toInt = 1 → w_X11_fault_B28 cy tE post S (fi S.1 20)))) ∧ (p0.toInt = 0 → post (fi S.1 19) S))

set_option maxHeartbeats 200000 in
set_option maxRecDepth 100000 in
theorem k_X11_fault {l : Launch} {D : va_G} {cy : Nat → ClassId} {T0 tB tE : Nat} {a : Nat → Nat} {rw : Nat → Option Nat} (hrw : ∀ i, i < 6 → rw i = some (a (12 + 2 * i))) (S : KS) (p0 : Int32) (post : Int32 → KS → Prop) (h : w_X11_fault cy tE S p0 post) : Ct l D cy T0 tB tE yX11_fault cX11_fault 2 (some .int) 0 0 0 0 (kw cy a rw S) [.ref (a 0), .int p0] (QI D (U := KS) post (kw cy a rw)) := by
  refine Ct.ofZ RX11 "fault" [(0, .ref (a 0)), (1, .int p0)] rfl rfl rfl rfl (Nat.le_of_ble_eq_true rfl) ?_
  intro p e R s m args below meth c A b
  unfold w_X11_fault at h
  refine z_iload_n b dX11_fault_0 rfl rfl ?_
  refine y_if_ne (tgt := 12) (xl := p0.toInt) b rfl dX11_fault_1 (by decide) (fun c1 => ?_) (fun c1 => ?_)
  · replace h := h.1 c1
    refine z_iload_n b dX11_fault_12 rfl rfl ?_
    refine z_iconst (v := 1) b dX11_fault_13 (by decide) ?_
    refine y_icmp_ne (tgt := 27) (xl := p0.toInt) (yl := 1) b rfl (by decide) dX11_fault_14 (by decide) (fun c1 => ?_) (fun c1 => ?_)
    · replace h := h.1 c1
      refine z_iconst (v := (-1)) b dX11_fault_27 (by decide) ?_
      refine z_lv0 (lv' := []) [] rfl ?_
      exact z_X11_fault_B28 hrw b _ _ h
    · replace h := h.2 c1
      refine z_aload_n b dX11_fault_17 rfl rfl ?_
      refine z_get (q0 := 0) (k9 := 2) (v := .ref (a 26)) b (kw_0 cy a rw S) rfl in_X11 (by decide) wf_X11_20 rfl dX11_fault_18 ?_
      refine z_get (q0 := 26) (k9 := 8) (v := .int (fi S.1 20)) b (kw_26 cy a rw S) rfl in_X5 (by decide) wf_X11_147 rfl dX11_fault_21 ?_
      refine z_goto (tgt := 28) b dX11_fault_24 (by decide) ?_
      refine z_lv0 (lv' := []) [] rfl ?_
      exact z_X11_fault_B28 hrw b _ _ h
  · replace h := h.2 c1
    refine z_aload_n b dX11_fault_4 rfl rfl ?_
    refine z_get (q0 := 0) (k9 := 2) (v := .ref (a 26)) b (kw_0 cy a rw S) rfl in_X11 (by decide) wf_X11_20 rfl dX11_fault_5 ?_
    refine z_get (q0 := 26) (k9 := 7) (v := .int (fi S.1 19)) b (kw_26 cy a rw S) rfl in_X5 (by decide) wf_X11_144 rfl dX11_fault_8 ?_
    exact z_iret (u := S) b rfl dX11_fault_11 h rfl (by decide) (by decide)

def w_X11_day (cy : Nat → ClassId) (tE : Nat) (S : KS) (p0 : Int32) (post : Int32 → KS → Prop) : Prop :=
  w_X11_isWithin cy tE S p0 15 (fun r1 S2 => ((r1.toInt ≠ 0 → w_X9_set cy tE S2 0 50 p0 (fun S4 => w_X8_forget cy tE S4 (fun S6 => post 1 S6))) ∧ (r1.toInt = 0 → post 0 S2)))

set_option maxHeartbeats 200000 in
set_option maxRecDepth 100000 in
theorem k_X11_day {l : Launch} {D : va_G} {cy : Nat → ClassId} {T0 tB tE : Nat} {a : Nat → Nat} {rw : Nat → Option Nat} (hrw : ∀ i, i < 6 → rw i = some (a (12 + 2 * i))) (S : KS) (p0 : Int32) (post : Int32 → KS → Prop) (h : w_X11_day cy tE S p0 post) : Ct l D cy T0 tB tE yX11_day cX11_day 2 (some .boolean) 1 22 0 0 (kw cy a rw S) [.ref (a 0), .int p0] (QI D (U := KS) post (kw cy a rw)) := by
  refine Ct.ofZ RX11 "day" [(0, .ref (a 0)), (1, .int p0)] rfl rfl rfl rfl (Nat.le_of_ble_eq_true rfl) ?_
  intro p e R s m args below meth c A b
  unfold w_X11_day at h
  refine z_iload_n b dX11_day_0 rfl rfl ?_
  refine z_bipush (v := 15) b dX11_day_1 (by decide) ?_
  refine z_calli b (z_runS (As := [.int p0, .int 15]) (st := []) b (k_X11_isWithin hrw S p0 15 _ h) cf_X11_isWithin wm_X11_73 ws_X11_isWithin dX11_day_3 rfl (Nat.le_of_ble_eq_true rfl) ⟨by decide, by decide, Nat.le_of_ble_eq_true rfl, Nat.le_of_ble_eq_true rfl⟩) (fun r1 S2 h => ?_)
  refine y_if_ne (tgt := 11) (xl := r1.toInt) b rfl dX11_day_6 (by decide) (fun c1 => ?_) (fun c1 => ?_)
  · replace h := h.1 c1
    refine z_aload_n b dX11_day_11 rfl rfl ?_
    refine z_get (q0 := 0) (k9 := 4) (v := .ref (a 2)) b (kw_0 cy a rw S2) rfl in_X11 (by decide) wf_X11_34 rfl dX11_day_12 ?_
    refine z_bipush (v := 50) b dX11_day_15 (by decide) ?_
    refine z_iload_n b dX11_day_17 rfl rfl ?_
    refine z_callv b (z_runV (q0 := 2) (As := [.int 50, .int p0]) (st := []) b (k_X9_set hrw S2 0 50 p0 _ h) cf_X9_set (kw_2 cy a rw S2) rfl wm_X11_77 wi_X9_set ws_X9_set dX11_day_18 rfl (Nat.le_of_ble_eq_true rfl) ⟨by decide, by decide, Nat.le_of_ble_eq_true rfl, Nat.le_of_ble_eq_true rfl⟩) (fun S4 h => ?_)
    refine z_aload_n b dX11_day_21 rfl rfl ?_
    refine z_get (q0 := 0) (k9 := 6) (v := .ref (a 38)) b (kw_0 cy a rw S4) rfl in_X11 (by decide) wf_X11_52 rfl dX11_day_22 ?_
    refine z_callv b (z_runV (q0 := 38) (As := []) (st := []) b (k_X8_forget hrw S4 _ h) cf_X8_forget (kw_38 cy a rw S4) rfl wm_X11_81 wi_X8_forget ws_X8_forget dX11_day_25 rfl (Nat.le_of_ble_eq_true rfl) ⟨by decide, by decide, Nat.le_of_ble_eq_true rfl, Nat.le_of_ble_eq_true rfl⟩) (fun S6 h => ?_)
    refine z_iconst (v := 1) b dX11_day_28 (by decide) ?_
    exact z_zret (u := S6) b rfl (by decide) dX11_day_29 h rfl (by decide) (by decide)
  · replace h := h.2 c1
    refine z_iconst (v := 0) b dX11_day_9 (by decide) ?_
    exact z_zret (u := S2) b rfl (by decide) dX11_day_10 h rfl (by decide) (by decide)

def w_X11_put_B17 (cy : Nat → ClassId) (tE : Nat) (post : Int32 → KS → Prop) (S : KS)  : Prop :=
  post (-1) S

set_option maxHeartbeats 200000 in
set_option maxRecDepth 100000 in
theorem z_X11_put_B17 {p : Program} {l : Launch} {e : Env} {R : Room} {s : State} {m : MethodId} {args : Array Value} {below : List Frame} {meth : Method} {c : Code} {D : va_G} {cy : Nat → ClassId} {T0 tB tE : Nat} {A : Nat → Prop} {a : Nat → Nat} {rw : Nat → Option Nat} (hrw : ∀ i, i < 6 → rw i = some (a (12 + 2 * i))) {post : Int32 → KS → Prop} (b : Bz p R s m args meth c D cy T0 tB tE A 3 cX11_put RX11 (some .int) "put" 1 21 0 0) (S : KS)  (h : w_X11_put_B17 cy tE post S ) : Z p l e R s m args below meth c D A 3 (MQ below (QI D (U := KS) post (kw cy a rw) A) args s 0 0 A) 0 0 (kw cy a rw S) [] 17 [] := by
  unfold w_X11_put_B17 at h
  refine z_iconst (v := (-1)) b dX11_put_17 (by decide) ?_
  exact z_iret (u := S) b rfl dX11_put_18 h rfl (by decide) (by decide)

def w_X11_put (cy : Nat → ClassId) (tE : Nat) (S : KS) (p0 : Int32) (p1 : Int32) (post : Int32 → KS → Prop) : Prop :=
  w_X11_isRow cy tE S p0 (fun r1 S2 => ((r1.toInt = 0 → w_X11_put_B17 cy tE post S2) ∧ (r1.toInt ≠ 0 → w_X11_isWithin cy tE S2 p1 767 (fun r3 S4 => ((r3.toInt ≠ 0 → (0 ≤ p0.toInt ∧ p0.toInt < 6) ∧ ((p0.toNatClampNeg) < 7) ∧ w_X7_add cy tE S4 (p0.toNatClampNeg) p1 (fun r8 S9 => post r8 S9)) ∧ (r3.toInt = 0 → w_X11_put_B17 cy tE post S4))))))

set_option maxHeartbeats 200000 in
set_option maxRecDepth 100000 in
theorem k_X11_put {l : Launch} {D : va_G} {cy : Nat → ClassId} {T0 tB tE : Nat} {a : Nat → Nat} {rw : Nat → Option Nat} (hrw : ∀ i, i < 6 → rw i = some (a (12 + 2 * i))) (S : KS) (p0 : Int32) (p1 : Int32) (post : Int32 → KS → Prop) (h : w_X11_put cy tE S p0 p1 post) : Ct l D cy T0 tB tE yX11_put cX11_put 3 (some .int) 1 21 0 0 (kw cy a rw S) [.ref (a 0), .int p0, .int p1] (QI D (U := KS) post (kw cy a rw)) := by
  refine Ct.ofZ RX11 "put" [(0, .ref (a 0)), (1, .int p0), (2, .int p1)] rfl rfl rfl rfl (Nat.le_of_ble_eq_true rfl) ?_
  intro p e R s m args below meth c A b
  unfold w_X11_put at h
  refine z_iload_n b dX11_put_0 rfl rfl ?_
  refine z_calli b (z_runS (As := [.int p0]) (st := []) b (k_X11_isRow hrw S p0 _ h) cf_X11_isRow wm_X11_169 ws_X11_isRow dX11_put_1 rfl (Nat.le_of_ble_eq_true rfl) ⟨by decide, by decide, Nat.le_of_ble_eq_true rfl, Nat.le_of_ble_eq_true rfl⟩) (fun r1 S2 h => ?_)
  refine y_if_eq (tgt := 17) (xl := r1.toInt) b rfl dX11_put_4 (by decide) (fun c1 => ?_) (fun c1 => ?_)
  · replace h := h.1 c1
    refine z_lv0 (lv' := []) [] rfl ?_
    exact z_X11_put_B17 hrw b _ h
  · replace h := h.2 c1
    refine z_iload_n b dX11_put_7 rfl rfl ?_
    refine z_sipush (v := 767) b dX11_put_8 (by decide) ?_
    refine z_calli b (z_runS (As := [.int p1, .int 767]) (st := []) b (k_X11_isWithin hrw S2 p1 767 _ h) cf_X11_isWithin wm_X11_73 ws_X11_isWithin dX11_put_11 rfl (Nat.le_of_ble_eq_true rfl) ⟨by decide, by decide, Nat.le_of_ble_eq_true rfl, Nat.le_of_ble_eq_true rfl⟩) (fun r3 S4 h => ?_)
    refine y_if_ne (tgt := 19) (xl := r3.toInt) b rfl dX11_put_14 (by decide) (fun c1 => ?_) (fun c1 => ?_)
    · replace h := h.1 c1
      refine z_aload_n b dX11_put_19 rfl rfl ?_
      refine z_get (q0 := 0) (k9 := 7) (v := .ref (a 46)) b (kw_0 cy a rw S4) rfl in_X11 (by decide) wf_X11_58 rfl dX11_put_20 ?_
      refine z_iload_n b dX11_put_23 rfl rfl ?_
      obtain ⟨g5, h⟩ := h
      refine y_aald (q0 := 46) (t0 := 4) (j := p0.toNatClampNeg) (v := .ref (a (12 + 2 * (p0.toNatClampNeg)))) b (kw_46 cy a rw S4) rfl (zx_r g5.1 g5.2) (by rw [hrw _ (zx_lt (zx_r g5.1 g5.2))]; rfl) dX11_put_24 ?_
      refine z_iload_n b dX11_put_25 rfl rfl ?_
      obtain ⟨g7, h⟩ := h
      refine z_calli b (z_runV (q0 := 12 + 2 * (p0.toNatClampNeg)) (As := [.int p1]) (st := []) b (k_X7_add hrw S4 (p0.toNatClampNeg) p1 _ h) cf_X7_add (kw_ro cy a rw S4 g7) rfl wm_X11_172 wi_X7_add ws_X7_add dX11_put_26 rfl (Nat.le_of_ble_eq_true rfl) ⟨by decide, by decide, Nat.le_of_ble_eq_true rfl, Nat.le_of_ble_eq_true rfl⟩) (fun r8 S9 h => ?_)
      exact z_iret (u := S9) b rfl dX11_put_29 h rfl (by decide) (by decide)
    · replace h := h.2 c1
      refine z_lv0 (lv' := []) [] rfl ?_
      exact z_X11_put_B17 hrw b _ h

def w_X11_digits (cy : Nat → ClassId) (tE : Nat) (S : KS) (p0 : Int32) (post : Int32 → KS → Prop) : Prop :=
  w_X11_become cy tE S p0 0 (fun r1 S2 => w_X11_become cy tE S2 p0 1 (fun r3 S4 => w_X11_become cy tE S4 p0 2 (fun r5 S6 => post ((((100 : Int32) * r1) + ((10 : Int32) * r3)) + r5) S6)))

set_option maxHeartbeats 200000 in
set_option maxRecDepth 100000 in
theorem k_X11_digits {l : Launch} {D : va_G} {cy : Nat → ClassId} {T0 tB tE : Nat} {a : Nat → Nat} {rw : Nat → Option Nat} (hrw : ∀ i, i < 6 → rw i = some (a (12 + 2 * i))) (S : KS) (p0 : Int32) (post : Int32 → KS → Prop) (h : w_X11_digits cy tE S p0 post) : Ct l D cy T0 tB tE yX11_digits cX11_digits 1 (some .int) 1 22 0 0 (kw cy a rw S) [.int p0] (QI D (U := KS) post (kw cy a rw)) := by
  refine Ct.ofZ RX11 "digits" [(0, .int p0)] rfl rfl rfl rfl (Nat.le_of_ble_eq_true rfl) ?_
  intro p e R s m args below meth c A b
  unfold w_X11_digits at h
  refine z_bipush (v := 100) b dX11_digits_0 (by decide) ?_
  refine z_iload_n b dX11_digits_2 rfl rfl ?_
  refine z_iconst (v := 0) b dX11_digits_3 (by decide) ?_
  refine z_calli b (z_runS (As := [.int p0, .int 0]) (st := [.int 100]) b (k_X11_become hrw S p0 0 _ h) cf_X11_become wm_X11_258 ws_X11_become dX11_digits_4 rfl (Nat.le_of_ble_eq_true rfl) ⟨by decide, by decide, Nat.le_of_ble_eq_true rfl, Nat.le_of_ble_eq_true rfl⟩) (fun r1 S2 h => ?_)
  refine z_imul b dX11_digits_7 rfl ?_
  refine z_bipush (v := 10) b dX11_digits_8 (by decide) ?_
  refine z_iload_n b dX11_digits_10 rfl rfl ?_
  refine z_iconst (v := 1) b dX11_digits_11 (by decide) ?_
  refine z_calli b (z_runS (As := [.int p0, .int 1]) (st := [.int 10, .int ((100 : Int32) * r1)]) b (k_X11_become hrw S2 p0 1 _ h) cf_X11_become wm_X11_258 ws_X11_become dX11_digits_12 rfl (Nat.le_of_ble_eq_true rfl) ⟨by decide, by decide, Nat.le_of_ble_eq_true rfl, Nat.le_of_ble_eq_true rfl⟩) (fun r3 S4 h => ?_)
  refine z_imul b dX11_digits_15 rfl ?_
  refine z_iadd b dX11_digits_16 rfl ?_
  refine z_iload_n b dX11_digits_17 rfl rfl ?_
  refine z_iconst (v := 2) b dX11_digits_18 (by decide) ?_
  refine z_calli b (z_runS (As := [.int p0, .int 2]) (st := [.int (((100 : Int32) * r1) + ((10 : Int32) * r3))]) b (k_X11_become hrw S4 p0 2 _ h) cf_X11_become wm_X11_258 ws_X11_become dX11_digits_19 rfl (Nat.le_of_ble_eq_true rfl) ⟨by decide, by decide, Nat.le_of_ble_eq_true rfl, Nat.le_of_ble_eq_true rfl⟩) (fun r5 S6 h => ?_)
  refine z_iadd b dX11_digits_22 rfl ?_
  exact z_iret (u := S6) b rfl dX11_digits_23 h rfl (by decide) (by decide)

def w_X11_coin_B16 (cy : Nat → ClassId) (tE : Nat) (post : Int32 → KS → Prop) (S : KS)  : Prop :=
  post 0 S

set_option maxHeartbeats 200000 in
set_option maxRecDepth 100000 in
theorem z_X11_coin_B16 {p : Program} {l : Launch} {e : Env} {R : Room} {s : State} {m : MethodId} {args : Array Value} {below : List Frame} {meth : Method} {c : Code} {D : va_G} {cy : Nat → ClassId} {T0 tB tE : Nat} {A : Nat → Prop} {a : Nat → Nat} {rw : Nat → Option Nat} (hrw : ∀ i, i < 6 → rw i = some (a (12 + 2 * i))) {post : Int32 → KS → Prop} (b : Bz p R s m args meth c D cy T0 tB tE A 3 cX11_coin RX11 (some .boolean) "coin" 1 22 0 0) (S : KS)  (h : w_X11_coin_B16 cy tE post S ) : Z p l e R s m args below meth c D A 3 (MQ below (QI D (U := KS) post (kw cy a rw) A) args s 0 0 A) 0 0 (kw cy a rw S) [] 16 [] := by
  unfold w_X11_coin_B16 at h
  refine z_iconst (v := 0) b dX11_coin_16 (by decide) ?_
  exact z_zret (u := S) b rfl (by decide) dX11_coin_17 h rfl (by decide) (by decide)

def w_X11_coin (cy : Nat → ClassId) (tE : Nat) (S : KS) (p0 : Int32) (p1 : Int32) (post : Int32 → KS → Prop) : Prop :=
  w_X11_isPerson cy tE S p0 (fun r1 S2 => ((r1.toInt = 0 → w_X11_coin_B16 cy tE post S2) ∧ (r1.toInt ≠ 0 → w_X11_isWithin cy tE S2 p1 15 (fun r3 S4 => ((r3.toInt ≠ 0 → w_X9_set cy tE S4 0 p0 p1 (fun S6 => w_X8_forget cy tE S6 (fun S8 => post 1 S8))) ∧ (r3.toInt = 0 → w_X11_coin_B16 cy tE post S4))))))

set_option maxHeartbeats 200000 in
set_option maxRecDepth 100000 in
theorem k_X11_coin {l : Launch} {D : va_G} {cy : Nat → ClassId} {T0 tB tE : Nat} {a : Nat → Nat} {rw : Nat → Option Nat} (hrw : ∀ i, i < 6 → rw i = some (a (12 + 2 * i))) (S : KS) (p0 : Int32) (p1 : Int32) (post : Int32 → KS → Prop) (h : w_X11_coin cy tE S p0 p1 post) : Ct l D cy T0 tB tE yX11_coin cX11_coin 3 (some .boolean) 1 22 0 0 (kw cy a rw S) [.ref (a 0), .int p0, .int p1] (QI D (U := KS) post (kw cy a rw)) := by
  refine Ct.ofZ RX11 "coin" [(0, .ref (a 0)), (1, .int p0), (2, .int p1)] rfl rfl rfl rfl (Nat.le_of_ble_eq_true rfl) ?_
  intro p e R s m args below meth c A b
  unfold w_X11_coin at h
  refine z_iload_n b dX11_coin_0 rfl rfl ?_
  refine z_calli b (z_runS (As := [.int p0]) (st := []) b (k_X11_isPerson hrw S p0 _ h) cf_X11_isPerson wm_X11_69 ws_X11_isPerson dX11_coin_1 rfl (Nat.le_of_ble_eq_true rfl) ⟨by decide, by decide, Nat.le_of_ble_eq_true rfl, Nat.le_of_ble_eq_true rfl⟩) (fun r1 S2 h => ?_)
  refine y_if_eq (tgt := 16) (xl := r1.toInt) b rfl dX11_coin_4 (by decide) (fun c1 => ?_) (fun c1 => ?_)
  · replace h := h.1 c1
    refine z_lv0 (lv' := []) [] rfl ?_
    exact z_X11_coin_B16 hrw b _ h
  · replace h := h.2 c1
    refine z_iload_n b dX11_coin_7 rfl rfl ?_
    refine z_bipush (v := 15) b dX11_coin_8 (by decide) ?_
    refine z_calli b (z_runS (As := [.int p1, .int 15]) (st := []) b (k_X11_isWithin hrw S2 p1 15 _ h) cf_X11_isWithin wm_X11_73 ws_X11_isWithin dX11_coin_10 rfl (Nat.le_of_ble_eq_true rfl) ⟨by decide, by decide, Nat.le_of_ble_eq_true rfl, Nat.le_of_ble_eq_true rfl⟩) (fun r3 S4 h => ?_)
    refine y_if_ne (tgt := 18) (xl := r3.toInt) b rfl dX11_coin_13 (by decide) (fun c1 => ?_) (fun c1 => ?_)
    · replace h := h.1 c1
      refine z_aload_n b dX11_coin_18 rfl rfl ?_
      refine z_get (q0 := 0) (k9 := 4) (v := .ref (a 2)) b (kw_0 cy a rw S4) rfl in_X11 (by decide) wf_X11_34 rfl dX11_coin_19 ?_
      refine z_iload_n b dX11_coin_22 rfl rfl ?_
      refine z_iload_n b dX11_coin_23 rfl rfl ?_
      refine z_callv b (z_runV (q0 := 2) (As := [.int p0, .int p1]) (st := []) b (k_X9_set hrw S4 0 p0 p1 _ h) cf_X9_set (kw_2 cy a rw S4) rfl wm_X11_77 wi_X9_set ws_X9_set dX11_coin_24 rfl (Nat.le_of_ble_eq_true rfl) ⟨by decide, by decide, Nat.le_of_ble_eq_true rfl, Nat.le_of_ble_eq_true rfl⟩) (fun S6 h => ?_)
      refine z_aload_n b dX11_coin_27 rfl rfl ?_
      refine z_get (q0 := 0) (k9 := 6) (v := .ref (a 38)) b (kw_0 cy a rw S6) rfl in_X11 (by decide) wf_X11_52 rfl dX11_coin_28 ?_
      refine z_callv b (z_runV (q0 := 38) (As := []) (st := []) b (k_X8_forget hrw S6 _ h) cf_X8_forget (kw_38 cy a rw S6) rfl wm_X11_81 wi_X8_forget ws_X8_forget dX11_coin_31 rfl (Nat.le_of_ble_eq_true rfl) ⟨by decide, by decide, Nat.le_of_ble_eq_true rfl, Nat.le_of_ble_eq_true rfl⟩) (fun S8 h => ?_)
      refine z_iconst (v := 1) b dX11_coin_34 (by decide) ?_
      exact z_zret (u := S8) b rfl (by decide) dX11_coin_35 h rfl (by decide) (by decide)
    · replace h := h.2 c1
      refine z_lv0 (lv' := []) [] rfl ?_
      exact z_X11_coin_B16 hrw b _ h

def w_X11_clear (cy : Nat → ClassId) (tE : Nat) (S : KS) (p0 : Int32) (post : Int32 → KS → Prop) : Prop :=
  w_X11_isRow cy tE S p0 (fun r1 S2 => ((r1.toInt ≠ 0 → (0 ≤ p0.toInt ∧ p0.toInt < 6) ∧ ((p0.toNatClampNeg) < 7) ∧ (0 ≤ p0.toInt ∧ p0.toInt < 6) ∧ ((p0.toNatClampNeg) < 7) ∧ post 1 (ksi (ksi S2 (1 + 2 * (p0.toNatClampNeg)) 0) (2 + 2 * (p0.toNatClampNeg)) 0)) ∧ (r1.toInt = 0 → post 0 S2)))

set_option maxHeartbeats 200000 in
set_option maxRecDepth 100000 in
theorem k_X11_clear {l : Launch} {D : va_G} {cy : Nat → ClassId} {T0 tB tE : Nat} {a : Nat → Nat} {rw : Nat → Option Nat} (hrw : ∀ i, i < 6 → rw i = some (a (12 + 2 * i))) (S : KS) (p0 : Int32) (post : Int32 → KS → Prop) (h : w_X11_clear cy tE S p0 post) : Ct l D cy T0 tB tE yX11_clear cX11_clear 2 (some .boolean) 1 20 0 0 (kw cy a rw S) [.ref (a 0), .int p0] (QI D (U := KS) post (kw cy a rw)) := by
  refine Ct.ofZ RX11 "clear" [(0, .ref (a 0)), (1, .int p0)] rfl rfl rfl rfl (Nat.le_of_ble_eq_true rfl) ?_
  intro p e R s m args below meth c A b
  unfold w_X11_clear at h
  refine z_iload_n b dX11_clear_0 rfl rfl ?_
  refine z_calli b (z_runS (As := [.int p0]) (st := []) b (k_X11_isRow hrw S p0 _ h) cf_X11_isRow wm_X11_169 ws_X11_isRow dX11_clear_1 rfl (Nat.le_of_ble_eq_true rfl) ⟨by decide, by decide, Nat.le_of_ble_eq_true rfl, Nat.le_of_ble_eq_true rfl⟩) (fun r1 S2 h => ?_)
  refine y_if_ne (tgt := 9) (xl := r1.toInt) b rfl dX11_clear_4 (by decide) (fun c1 => ?_) (fun c1 => ?_)
  · replace h := h.1 c1
    refine z_aload_n b dX11_clear_9 rfl rfl ?_
    refine z_get (q0 := 0) (k9 := 7) (v := .ref (a 46)) b (kw_0 cy a rw S2) rfl in_X11 (by decide) wf_X11_58 rfl dX11_clear_10 ?_
    refine z_iload_n b dX11_clear_13 rfl rfl ?_
    obtain ⟨g3, h⟩ := h
    refine y_aald (q0 := 46) (t0 := 4) (j := p0.toNatClampNeg) (v := .ref (a (12 + 2 * (p0.toNatClampNeg)))) b (kw_46 cy a rw S2) rfl (zx_r g3.1 g3.2) (by rw [hrw _ (zx_lt (zx_r g3.1 g3.2))]; rfl) dX11_clear_14 ?_
    refine z_iconst (v := 0) b dX11_clear_15 (by decide) ?_
    obtain ⟨g5, h⟩ := h
    refine z_put (q0 := 12 + 2 * (p0.toNatClampNeg)) (k9 := 1) tyX7 b (kw_ro cy a rw S2 g5) rfl in_X7 tyX7_ok nmX7 (by decide) wf_X11_175 rfl rfl rfl rfl (Nat.le_of_ble_eq_true rfl) dX11_clear_16 (kwp_ro_1 cy a rw S2 g5 0) ?_
    refine z_aload_n b dX11_clear_19 rfl rfl ?_
    refine z_get (q0 := 0) (k9 := 7) (v := .ref (a 46)) b (kw_0 cy a rw (ksi S2 (1 + 2 * (p0.toNatClampNeg)) 0)) rfl in_X11 (by decide) wf_X11_58 rfl dX11_clear_20 ?_
    refine z_iload_n b dX11_clear_23 rfl rfl ?_
    obtain ⟨g6, h⟩ := h
    refine y_aald (q0 := 46) (t0 := 4) (j := p0.toNatClampNeg) (v := .ref (a (12 + 2 * (p0.toNatClampNeg)))) b (kw_46 cy a rw (ksi S2 (1 + 2 * (p0.toNatClampNeg)) 0)) rfl (zx_r g6.1 g6.2) (by rw [hrw _ (zx_lt (zx_r g6.1 g6.2))]; rfl) dX11_clear_24 ?_
    refine z_iconst (v := 0) b dX11_clear_25 (by decide) ?_
    obtain ⟨g8, h⟩ := h
    refine z_put (q0 := 12 + 2 * (p0.toNatClampNeg)) (k9 := 2) tyX7 b (kw_ro cy a rw (ksi S2 (1 + 2 * (p0.toNatClampNeg)) 0) g8) rfl in_X7 tyX7_ok nmX7 (by decide) wf_X11_178 rfl rfl rfl rfl (Nat.le_of_ble_eq_true rfl) dX11_clear_26 (kwp_ro_2 cy a rw (ksi S2 (1 + 2 * (p0.toNatClampNeg)) 0) g8 0) ?_
    refine z_iconst (v := 1) b dX11_clear_29 (by decide) ?_
    exact z_zret (u := (ksi (ksi S2 (1 + 2 * (p0.toNatClampNeg)) 0) (2 + 2 * (p0.toNatClampNeg)) 0)) b rfl (by decide) dX11_clear_30 h rfl (by decide) (by decide)
  · replace h := h.2 c1
    refine z_iconst (v := 0) b dX11_clear_7 (by decide) ?_
    exact z_zret (u := S2) b rfl (by decide) dX11_clear_8 h rfl (by decide) (by decide)

def w_X11_honest_B20 (cy : Nat → ClassId) (tE : Nat) (post : Int32 → KS → Prop) (S : KS)  : Prop :=
  post 0 S

set_option maxHeartbeats 200000 in
set_option maxRecDepth 100000 in
theorem z_X11_honest_B20 {p : Program} {l : Launch} {e : Env} {R : Room} {s : State} {m : MethodId} {args : Array Value} {below : List Frame} {meth : Method} {c : Code} {D : va_G} {cy : Nat → ClassId} {T0 tB tE : Nat} {A : Nat → Prop} {a : Nat → Nat} {rw : Nat → Option Nat} (hrw : ∀ i, i < 6 → rw i = some (a (12 + 2 * i))) {post : Int32 → KS → Prop} (b : Bz p R s m args meth c D cy T0 tB tE A 3 cX11_honest RX11 (some .boolean) "honest" 1 20 0 0) (S : KS)  (h : w_X11_honest_B20 cy tE post S ) : Z p l e R s m args below meth c D A 3 (MQ below (QI D (U := KS) post (kw cy a rw) A) args s 0 0 A) 0 0 (kw cy a rw S) [] 20 [] := by
  unfold w_X11_honest_B20 at h
  refine z_iconst (v := 0) b dX11_honest_20 (by decide) ?_
  exact z_zret (u := S) b rfl (by decide) dX11_honest_21 h rfl (by decide) (by decide)

def w_X11_honest (cy : Nat → ClassId) (tE : Nat) (S : KS) (p0 : Int32) (p1 : Int32) (post : Int32 → KS → Prop) : Prop :=
  w_X11_isRow cy tE S p0 (fun r1 S2 => ((r1.toInt = 0 → w_X11_honest_B20 cy tE post S2) ∧ (r1.toInt ≠ 0 → (0 ≤ p0.toInt ∧ p0.toInt < 6) ∧ ((p0.toNatClampNeg) < 7) ∧ (((fi S2.1 (2 + 2 * (p0.toNatClampNeg))).toInt ≠ p1.toInt → (0 ≤ p0.toInt ∧ p0.toInt < 6) ∧ (p1 = 0 ∨ p1 = 1) ∧ ((p0.toNatClampNeg) < 7) ∧ post 1 (ksi S2 (2 + 2 * (p0.toNatClampNeg)) p1)) ∧ ((fi S2.1 (2 + 2 * (p0.toNatClampNeg))).toInt = p1.toInt → w_X11_honest_B20 cy tE post S2)))))

set_option maxHeartbeats 200000 in
set_option maxRecDepth 100000 in
theorem k_X11_honest {l : Launch} {D : va_G} {cy : Nat → ClassId} {T0 tB tE : Nat} {a : Nat → Nat} {rw : Nat → Option Nat} (hrw : ∀ i, i < 6 → rw i = some (a (12 + 2 * i))) (S : KS) (p0 : Int32) (p1 : Int32) (post : Int32 → KS → Prop) (h : w_X11_honest cy tE S p0 p1 post) : Ct l D cy T0 tB tE yX11_honest cX11_honest 3 (some .boolean) 1 20 0 0 (kw cy a rw S) [.ref (a 0), .int p0, .int p1] (QI D (U := KS) post (kw cy a rw)) := by
  refine Ct.ofZ RX11 "honest" [(0, .ref (a 0)), (1, .int p0), (2, .int p1)] rfl rfl rfl rfl (Nat.le_of_ble_eq_true rfl) ?_
  intro p e R s m args below meth c A b
  unfold w_X11_honest at h
  refine z_iload_n b dX11_honest_0 rfl rfl ?_
  refine z_calli b (z_runS (As := [.int p0]) (st := []) b (k_X11_isRow hrw S p0 _ h) cf_X11_isRow wm_X11_169 ws_X11_isRow dX11_honest_1 rfl (Nat.le_of_ble_eq_true rfl) ⟨by decide, by decide, Nat.le_of_ble_eq_true rfl, Nat.le_of_ble_eq_true rfl⟩) (fun r1 S2 h => ?_)
  refine y_if_eq (tgt := 20) (xl := r1.toInt) b rfl dX11_honest_4 (by decide) (fun c1 => ?_) (fun c1 => ?_)
  · replace h := h.1 c1
    refine z_lv0 (lv' := []) [] rfl ?_
    exact z_X11_honest_B20 hrw b _ h
  · replace h := h.2 c1
    refine z_aload_n b dX11_honest_7 rfl rfl ?_
    refine z_get (q0 := 0) (k9 := 7) (v := .ref (a 46)) b (kw_0 cy a rw S2) rfl in_X11 (by decide) wf_X11_58 rfl dX11_honest_8 ?_
    refine z_iload_n b dX11_honest_11 rfl rfl ?_
    obtain ⟨g3, h⟩ := h
    refine y_aald (q0 := 46) (t0 := 4) (j := p0.toNatClampNeg) (v := .ref (a (12 + 2 * (p0.toNatClampNeg)))) b (kw_46 cy a rw S2) rfl (zx_r g3.1 g3.2) (by rw [hrw _ (zx_lt (zx_r g3.1 g3.2))]; rfl) dX11_honest_12 ?_
    obtain ⟨g5, h⟩ := h
    refine z_get (q0 := 12 + 2 * (p0.toNatClampNeg)) (k9 := 2) (v := .int (fi S2.1 (2 + 2 * (p0.toNatClampNeg)))) b (kw_ro cy a rw S2 g5) rfl in_X7 (by decide) wf_X11_178 rfl dX11_honest_13 ?_
    refine z_iload_n b dX11_honest_16 rfl rfl ?_
    refine y_icmp_ne (tgt := 22) (xl := (fi S2.1 (2 + 2 * (p0.toNatClampNeg))).toInt) (yl := p1.toInt) b rfl rfl dX11_honest_17 (by decide) (fun c1 => ?_) (fun c1 => ?_)
    · replace h := h.1 c1
      refine z_aload_n b dX11_honest_22 rfl rfl ?_
      refine z_get (q0 := 0) (k9 := 7) (v := .ref (a 46)) b (kw_0 cy a rw S2) rfl in_X11 (by decide) wf_X11_58 rfl dX11_honest_23 ?_
      refine z_iload_n b dX11_honest_26 rfl rfl ?_
      obtain ⟨g6, h⟩ := h
      refine y_aald (q0 := 46) (t0 := 4) (j := p0.toNatClampNeg) (v := .ref (a (12 + 2 * (p0.toNatClampNeg)))) b (kw_46 cy a rw S2) rfl (zx_r g6.1 g6.2) (by rw [hrw _ (zx_lt (zx_r g6.1 g6.2))]; rfl) dX11_honest_27 ?_
      refine z_iload_n b dX11_honest_28 rfl rfl ?_
      obtain ⟨g8, h⟩ := h
      obtain ⟨g9, h⟩ := h
      refine z_put (q0 := 12 + 2 * (p0.toNatClampNeg)) (k9 := 2) tyX7 b (kw_ro cy a rw S2 g9) rfl in_X7 tyX7_ok nmX7 (by decide) wf_X11_178 rfl rfl (z_bool g8) (z_boolf g8) (Nat.le_of_ble_eq_true rfl) dX11_honest_29 (kwp_ro_2 cy a rw S2 g9 p1) ?_
      refine z_iconst (v := 1) b dX11_honest_32 (by decide) ?_
      exact z_zret (u := (ksi S2 (2 + 2 * (p0.toNatClampNeg)) p1)) b rfl (by decide) dX11_honest_33 h rfl (by decide) (by decide)
    · replace h := h.2 c1
      refine z_lv0 (lv' := []) [] rfl ?_
      exact z_X11_honest_B20 hrw b _ h

def w_X11_owner_B15 (cy : Nat → ClassId) (tE : Nat) (post : Int32 → KS → Prop) (S : KS)  : Prop :=
  post 0 S

set_option maxHeartbeats 200000 in
set_option maxRecDepth 100000 in
theorem z_X11_owner_B15 {p : Program} {l : Launch} {e : Env} {R : Room} {s : State} {m : MethodId} {args : Array Value} {below : List Frame} {meth : Method} {c : Code} {D : va_G} {cy : Nat → ClassId} {T0 tB tE : Nat} {A : Nat → Prop} {a : Nat → Nat} {rw : Nat → Option Nat} (hrw : ∀ i, i < 6 → rw i = some (a (12 + 2 * i))) {post : Int32 → KS → Prop} (b : Bz p R s m args meth c D cy T0 tB tE A 3 cX11_owner RX11 (some .boolean) "owner" 1 22 0 0) (S : KS)  (h : w_X11_owner_B15 cy tE post S ) : Z p l e R s m args below meth c D A 3 (MQ below (QI D (U := KS) post (kw cy a rw) A) args s 0 0 A) 0 0 (kw cy a rw S) [] 15 [] := by
  unfold w_X11_owner_B15 at h
  refine z_iconst (v := 0) b dX11_owner_15 (by decide) ?_
  exact z_zret (u := S) b rfl (by decide) dX11_owner_16 h rfl (by decide) (by decide)

def w_X11_owner (cy : Nat → ClassId) (tE : Nat) (S : KS) (p0 : Int32) (p1 : Int32) (post : Int32 → KS → Prop) : Prop :=
  w_X11_isThing cy tE S p0 (fun r1 S2 => ((r1.toInt = 0 → w_X11_owner_B15 cy tE post S2) ∧ (r1.toInt ≠ 0 → w_X11_isWithin cy tE S2 p1 3 (fun r3 S4 => ((r3.toInt ≠ 0 → w_X9_set cy tE S4 0 ((40 : Int32) + p0) p1 (fun S6 => w_X8_forget cy tE S6 (fun S8 => post 1 S8))) ∧ (r3.toInt = 0 → w_X11_owner_B15 cy tE post S4))))))

set_option maxHeartbeats 200000 in
set_option maxRecDepth 100000 in
theorem k_X11_owner {l : Launch} {D : va_G} {cy : Nat → ClassId} {T0 tB tE : Nat} {a : Nat → Nat} {rw : Nat → Option Nat} (hrw : ∀ i, i < 6 → rw i = some (a (12 + 2 * i))) (S : KS) (p0 : Int32) (p1 : Int32) (post : Int32 → KS → Prop) (h : w_X11_owner cy tE S p0 p1 post) : Ct l D cy T0 tB tE yX11_owner cX11_owner 3 (some .boolean) 1 22 0 0 (kw cy a rw S) [.ref (a 0), .int p0, .int p1] (QI D (U := KS) post (kw cy a rw)) := by
  refine Ct.ofZ RX11 "owner" [(0, .ref (a 0)), (1, .int p0), (2, .int p1)] rfl rfl rfl rfl (Nat.le_of_ble_eq_true rfl) ?_
  intro p e R s m args below meth c A b
  unfold w_X11_owner at h
  refine z_iload_n b dX11_owner_0 rfl rfl ?_
  refine z_calli b (z_runS (As := [.int p0]) (st := []) b (k_X11_isThing hrw S p0 _ h) cf_X11_isThing wm_X11_87 ws_X11_isThing dX11_owner_1 rfl (Nat.le_of_ble_eq_true rfl) ⟨by decide, by decide, Nat.le_of_ble_eq_true rfl, Nat.le_of_ble_eq_true rfl⟩) (fun r1 S2 h => ?_)
  refine y_if_eq (tgt := 15) (xl := r1.toInt) b rfl dX11_owner_4 (by decide) (fun c1 => ?_) (fun c1 => ?_)
  · replace h := h.1 c1
    refine z_lv0 (lv' := []) [] rfl ?_
    exact z_X11_owner_B15 hrw b _ h
  · replace h := h.2 c1
    refine z_iload_n b dX11_owner_7 rfl rfl ?_
    refine z_iconst (v := 3) b dX11_owner_8 (by decide) ?_
    refine z_calli b (z_runS (As := [.int p1, .int 3]) (st := []) b (k_X11_isWithin hrw S2 p1 3 _ h) cf_X11_isWithin wm_X11_73 ws_X11_isWithin dX11_owner_9 rfl (Nat.le_of_ble_eq_true rfl) ⟨by decide, by decide, Nat.le_of_ble_eq_true rfl, Nat.le_of_ble_eq_true rfl⟩) (fun r3 S4 h => ?_)
    refine y_if_ne (tgt := 17) (xl := r3.toInt) b rfl dX11_owner_12 (by decide) (fun c1 => ?_) (fun c1 => ?_)
    · replace h := h.1 c1
      refine z_aload_n b dX11_owner_17 rfl rfl ?_
      refine z_get (q0 := 0) (k9 := 4) (v := .ref (a 2)) b (kw_0 cy a rw S4) rfl in_X11 (by decide) wf_X11_34 rfl dX11_owner_18 ?_
      refine z_bipush (v := 40) b dX11_owner_21 (by decide) ?_
      refine z_iload_n b dX11_owner_23 rfl rfl ?_
      refine z_iadd b dX11_owner_24 rfl ?_
      refine z_iload_n b dX11_owner_25 rfl rfl ?_
      refine z_callv b (z_runV (q0 := 2) (As := [.int ((40 : Int32) + p0), .int p1]) (st := []) b (k_X9_set hrw S4 0 ((40 : Int32) + p0) p1 _ h) cf_X9_set (kw_2 cy a rw S4) rfl wm_X11_77 wi_X9_set ws_X9_set dX11_owner_26 rfl (Nat.le_of_ble_eq_true rfl) ⟨by decide, by decide, Nat.le_of_ble_eq_true rfl, Nat.le_of_ble_eq_true rfl⟩) (fun S6 h => ?_)
      refine z_aload_n b dX11_owner_29 rfl rfl ?_
      refine z_get (q0 := 0) (k9 := 6) (v := .ref (a 38)) b (kw_0 cy a rw S6) rfl in_X11 (by decide) wf_X11_52 rfl dX11_owner_30 ?_
      refine z_callv b (z_runV (q0 := 38) (As := []) (st := []) b (k_X8_forget hrw S6 _ h) cf_X8_forget (kw_38 cy a rw S6) rfl wm_X11_81 wi_X8_forget ws_X8_forget dX11_owner_33 rfl (Nat.le_of_ble_eq_true rfl) ⟨by decide, by decide, Nat.le_of_ble_eq_true rfl, Nat.le_of_ble_eq_true rfl⟩) (fun S8 h => ?_)
      refine z_iconst (v := 1) b dX11_owner_36 (by decide) ?_
      exact z_zret (u := S8) b rfl (by decide) dX11_owner_37 h rfl (by decide) (by decide)
    · replace h := h.2 c1
      refine z_lv0 (lv' := []) [] rfl ?_
      exact z_X11_owner_B15 hrw b _ h

def w_Jxa1e45_init_da8c8 (cy : Nat → ClassId) (tE : Nat) (S : KS) (p9 : Nat) (post : KS → Prop) : Prop :=
  post S

set_option maxHeartbeats 200000 in
set_option maxRecDepth 100000 in
theorem k_Jxa1e45_init_da8c8 {l : Launch} {D : va_G} {cy : Nat → ClassId} {T0 tB tE : Nat} {a : Nat → Nat} {rw : Nat → Option Nat} (hrw : ∀ i, i < 6 → rw i = some (a (12 + 2 * i))) (S : KS) (p9 : Nat) (post : KS → Prop) (h : w_Jxa1e45_init_da8c8 cy tE S p9 post) : Ct l D cy T0 tB tE yJxa1e45_init_da8c8 cJxa1e45_init_da8c8 1 none 1 20 0 0 (kw cy a rw S) [.ref p9] (QV D (U := KS) post (kw cy a rw)) := by
  refine Ct.ofZ RJxa1e45 "<init>" [(0, .ref p9)] rfl rfl rfl rfl (Nat.le_of_ble_eq_true rfl) ?_
  intro p e R s m args below meth c A b
  unfold w_Jxa1e45_init_da8c8 at h
  refine z_aload_n b dJxa1e45_init_da8c8_0 rfl rfl ?_
  refine z_objInit b wm_Jxa1e45_1 wi_objInit wc_objInit dJxa1e45_init_da8c8_1 (by decide) (Nat.le_of_ble_eq_true rfl) ?_
  exact z_vret (u := S) b rfl dJxa1e45_init_da8c8_4 h rfl (by decide) (by decide)

def w_Jxc12de_init_da8c8 (cy : Nat → ClassId) (tE : Nat) (S : KS) (p9 : Nat) (post : KS → Prop) : Prop :=
  w_Jxa1e45_init_da8c8 cy tE S p9 (fun S2 => ∃ (i3 : Nat) (f4 : Int32) (f5 : Value) (f6 : Int32), S2.2.2.2[i3]? = some (p9, .inr (0, [.int f4, f5, .int f6])) ∧ post (ksL S2 (S2.2.2.2.set i3 (p9, .inr (0, [.int 0, f5, .int f6])))))

set_option maxHeartbeats 200000 in
set_option maxRecDepth 100000 in
theorem k_Jxc12de_init_da8c8 {l : Launch} {D : va_G} {cy : Nat → ClassId} {T0 tB tE : Nat} {a : Nat → Nat} {rw : Nat → Option Nat} (hrw : ∀ i, i < 6 → rw i = some (a (12 + 2 * i))) (S : KS) (p9 : Nat) (post : KS → Prop) (h : w_Jxc12de_init_da8c8 cy tE S p9 post) : Ct l D cy T0 tB tE yJxc12de_init_da8c8 cJxc12de_init_da8c8 1 none 2 40 0 0 (kw cy a rw S) [.ref p9] (QV D (U := KS) post (kw cy a rw)) := by
  refine Ct.ofZ RJxc12de "<init>" [(0, .ref p9)] rfl rfl rfl rfl (Nat.le_of_ble_eq_true rfl) ?_
  intro p e R s m args below meth c A b
  unfold w_Jxc12de_init_da8c8 at h
  refine z_aload_n b dJxc12de_init_da8c8_0 rfl rfl ?_
  refine z_callv b (z_runI (As := []) (st := []) b (k_Jxa1e45_init_da8c8 hrw S p9 _ h) cf_Jxa1e45_init_da8c8 wm_Jxc12de_1 wi_Jxa1e45_init_da8c8 rfl dJxc12de_init_da8c8_1 rfl (Nat.le_of_ble_eq_true rfl) ⟨by decide, by decide, Nat.le_of_ble_eq_true rfl, Nat.le_of_ble_eq_true rfl⟩) (fun S2 h => ?_)
  refine z_aload_n b dJxc12de_init_da8c8_4 rfl rfl ?_
  refine z_iconst (v := 0) b dJxc12de_init_da8c8_5 (by decide) ?_
  obtain ⟨i3, f4, f5, f6, g7, h⟩ := h
  refine z_put (q0 := 47 + i3) (k9 := 0) tyJx4a65c b (kw_dyn cy a rw S2 g7) rfl in_Jx4a65c tyJx4a65c_ok nmJx4a65c (by decide) wf_Jxc12de_7 rfl rfl rfl rfl (Nat.le_of_ble_eq_true rfl) dJxc12de_init_da8c8_6 (kw_dset cy a rw S2 i3 (p9, .inr (0, [.int 0, f5, .int f6]))) ?_
  exact z_vret (u := (ksL S2 (S2.2.2.2.set i3 (p9, .inr (0, [.int 0, f5, .int f6]))))) b rfl dJxc12de_init_da8c8_9 h rfl (by decide) (by decide)

def w_Jx4a65c_init_da8c8 (cy : Nat → ClassId) (tE : Nat) (S : KS) (p9 : Nat) (post : KS → Prop) : Prop :=
  w_Jxc12de_init_da8c8 cy tE S p9 (fun S2 => ∃ (i3 : Nat) (f4 : Int32) (f5 : Value) (f6 : Int32), S2.2.2.2[i3]? = some (p9, .inr (0, [.int f4, f5, .int f6])) ∧ post (ksL S2 (S2.2.2.2.set i3 (p9, .inr (0, [.int f4, .ref tE, .int f6])))))

set_option maxHeartbeats 200000 in
set_option maxRecDepth 100000 in
theorem k_Jx4a65c_init_da8c8 {l : Launch} {D : va_G} {cy : Nat → ClassId} {T0 tB tE : Nat} {a : Nat → Nat} {rw : Nat → Option Nat} (hrw : ∀ i, i < 6 → rw i = some (a (12 + 2 * i))) (S : KS) (p9 : Nat) (post : KS → Prop) (h : w_Jx4a65c_init_da8c8 cy tE S p9 post) : Ct l D cy T0 tB tE yJx4a65c_init_da8c8 cJx4a65c_init_da8c8 1 none 3 60 0 0 (kw cy a rw S) [.ref p9] (QV D (U := KS) post (kw cy a rw)) := by
  refine Ct.ofZ RJx4a65c "<init>" [(0, .ref p9)] rfl rfl rfl rfl (Nat.le_of_ble_eq_true rfl) ?_
  intro p e R s m args below meth c A b
  unfold w_Jx4a65c_init_da8c8 at h
  refine z_aload_n b dJx4a65c_init_da8c8_0 rfl rfl ?_
  refine z_callv b (z_runI (As := []) (st := []) b (k_Jxc12de_init_da8c8 hrw S p9 _ h) cf_Jxc12de_init_da8c8 wm_Jx4a65c_1 wi_Jxc12de_init_da8c8 rfl dJx4a65c_init_da8c8_1 rfl (Nat.le_of_ble_eq_true rfl) ⟨by decide, by decide, Nat.le_of_ble_eq_true rfl, Nat.le_of_ble_eq_true rfl⟩) (fun S2 h => ?_)
  refine z_aload_n b dJx4a65c_init_da8c8_4 rfl rfl ?_
  refine z_getE b wf_Jx4a65c_39 dJx4a65c_init_da8c8_5 ?_
  obtain ⟨i3, f4, f5, f6, g7, h⟩ := h
  refine z_put (q0 := 47 + i3) (k9 := 1) tyJx4a65c b (kw_dyn cy a rw S2 g7) rfl in_Jx4a65c tyJx4a65c_ok nmJx4a65c (by decide) wf_Jx4a65c_9 rfl rfl rfl rfl (Nat.le_of_ble_eq_true rfl) dJx4a65c_init_da8c8_8 (kw_dset cy a rw S2 i3 (p9, .inr (0, [.int f4, .ref tE, .int f6]))) ?_
  exact z_vret (u := (ksL S2 (S2.2.2.2.set i3 (p9, .inr (0, [.int f4, .ref tE, .int f6]))))) b rfl dJx4a65c_init_da8c8_11 h rfl (by decide) (by decide)

def w_X0_init (cy : Nat → ClassId) (tE : Nat) (mc ms : Nat) (S : KS) (p9 : Nat) (p0 : Int64) (post : KS → Prop) : Prop :=
  (0 + 1 ≤ mc ∧ 0 + 3 ≤ ms) ∧ ∀ q2 : Nat, ((0 + 1) ≤ mc ∧ (0 + 3) ≤ ms) ∧ w_Jx4a65c_init_da8c8 cy tE (ksL S (vn S.2.2.2 (q2, .inr (0, [.int 0, .null, .int 0])))) q2 (fun S5 => ∃ (i6 : Nat) (f7 : Int64) (f8 : Value) (f9 : Value) (f10 : Int32) (f11 : Int32), S5.2.2.2[i6]? = some (p9, .inr (1, [.long f7, f8, f9, .int f10, .int f11])) ∧ ((0 + 1) + 1 ≤ mc ∧ (0 + 3) + 3 ≤ ms) ∧ ∀ q14 : Nat, (((0 + 1) + 1) ≤ mc ∧ ((0 + 3) + 3) ≤ ms) ∧ w_Jx4a65c_init_da8c8 cy tE (ksL (ksL S5 (S5.2.2.2.set i6 (p9, .inr (1, [.long f7, .ref q2, f9, .int f10, .int f11])))) (vn (S5.2.2.2.set i6 (p9, .inr (1, [.long f7, .ref q2, f9, .int f10, .int f11]))) (q14, .inr (0, [.int 0, .null, .int 0])))) q14 (fun S17 => ∃ (i18 : Nat) (f19 : Int64) (f20 : Value) (f21 : Value) (f22 : Int32) (f23 : Int32), S17.2.2.2[i18]? = some (p9, .inr (1, [.long f19, f20, f21, .int f22, .int f23])) ∧ ∃ (i25 : Nat) (f26 : Int64) (f27 : Value) (f28 : Value) (f29 : Int32) (f30 : Int32), (S17.2.2.2.set i18 (p9, .inr (1, [.long f19, f20, .ref q14, .int f22, .int f23])))[i25]? = some (p9, .inr (1, [.long f26, f27, f28, .int f29, .int f30])) ∧ ∃ (i32 : Nat) (f33 : Int64) (f34 : Value) (f35 : Value) (f36 : Int32) (f37 : Int32), ((S17.2.2.2.set i18 (p9, .inr (1, [.long f19, f20, .ref q14, .int f22, .int f23]))).set i25 (p9, .inr (1, [.long f26, f27, f28, .int 0, .int f30])))[i32]? = some (p9, .inr (1, [.long f33, f34, f35, .int f36, .int f37])) ∧ ∃ (i39 : Nat) (f40 : Int64) (f41 : Value) (f42 : Value) (f43 : Int32) (f44 : Int32), (((S17.2.2.2.set i18 (p9, .inr (1, [.long f19, f20, .ref q14, .int f22, .int f23]))).set i25 (p9, .inr (1, [.long f26, f27, f28, .int 0, .int f30]))).set i32 (p9, .inr (1, [.long f33, f34, f35, .int f36, .int 0])))[i39]? = some (p9, .inr (1, [.long f40, f41, f42, .int f43, .int f44])) ∧ (((0 + 1) + 1) ≤ mc ∧ ((0 + 3) + 3) ≤ ms) ∧ post (ksL (ksL (ksL (ksL S17 (S17.2.2.2.set i18 (p9, .inr (1, [.long f19, f20, .ref q14, .int f22, .int f23])))) ((S17.2.2.2.set i18 (p9, .inr (1, [.long f19, f20, .ref q14, .int f22, .int f23]))).set i25 (p9, .inr (1, [.long f26, f27, f28, .int 0, .int f30])))) (((S17.2.2.2.set i18 (p9, .inr (1, [.long f19, f20, .ref q14, .int f22, .int f23]))).set i25 (p9, .inr (1, [.long f26, f27, f28, .int 0, .int f30]))).set i32 (p9, .inr (1, [.long f33, f34, f35, .int f36, .int 0])))) ((((S17.2.2.2.set i18 (p9, .inr (1, [.long f19, f20, .ref q14, .int f22, .int f23]))).set i25 (p9, .inr (1, [.long f26, f27, f28, .int 0, .int f30]))).set i32 (p9, .inr (1, [.long f33, f34, f35, .int f36, .int 0]))).set i39 (p9, .inr (1, [.long p0, f41, f42, .int f43, .int f44]))))))

set_option maxHeartbeats 200000 in
set_option maxRecDepth 100000 in
theorem k_X0_init {l : Launch} {D : va_G} {cy : Nat → ClassId} {T0 tB tE : Nat} {a : Nat → Nat} {rw : Nat → Option Nat} (hrw : ∀ i, i < 6 → rw i = some (a (12 + 2 * i))) {mc ms : Nat} (S : KS) (p9 : Nat) (p0 : Int64) (post : KS → Prop) (h : w_X0_init cy tE mc ms S p9 p0 post) : Ct l D cy T0 tB tE yX0_init cX0_init 3 none 4 80 mc ms (kw cy a rw S) [.ref p9, .long p0] (QV D (U := KS) post (kw cy a rw)) := by
  refine Ct.ofZ RX0 "<init>" [(0, .ref p9), (1, .long p0)] rfl rfl rfl rfl (Nat.le_of_ble_eq_true rfl) ?_
  intro p e R s m args below meth c A b
  unfold w_X0_init at h
  refine z_aload_n b dX0_init_0 rfl rfl ?_
  refine z_objInit b wm_X0_1 wi_objInit wc_objInit dX0_init_1 (by decide) (Nat.le_of_ble_eq_true rfl) ?_
  refine z_aload_n b dX0_init_4 rfl rfl ?_
  obtain ⟨g1, h⟩ := h
  refine z_new (fs := [.int 0, .null, .int 0]) (N := 3) (ci := 0) tyJx4a65c b in_Jx4a65c tyJx4a65c_ok wk_X0_7 wn_Jx4a65c w0_Jx4a65c rfl tyJx4a65c_df g1 dX0_init_5 (fun q2 => ?_)
  replace h := h q2
  refine z_wseq (kw_newv cy a rw S (q2, .inr (0, [.int 0, .null, .int 0]))) ?_
  refine z_dup b dX0_init_8 rfl ?_
  obtain ⟨g3, h⟩ := h
  refine z_callv b (z_runI (As := []) (st := [.ref q2, .ref p9]) b (k_Jx4a65c_init_da8c8 hrw (ksL S (vn S.2.2.2 (q2, .inr (0, [.int 0, .null, .int 0])))) q2 _ h) cf_Jx4a65c_init_da8c8 wm_X0_9 wi_Jx4a65c_init_da8c8 rfl dX0_init_9 rfl (Nat.le_of_ble_eq_true rfl) ⟨by decide, by decide, g3.1, g3.2⟩) (fun S5 h => ?_)
  obtain ⟨i6, f7, f8, f9, f10, f11, g12, h⟩ := h
  refine z_putF (q0 := 47 + i6) (k9 := 1) tyX0 b (kw_dyn cy a rw S5 g12) rfl in_X0 tyX0_ok nmX0 (by decide) wf_X0_10 rfl rfl rfl rfl rfl rfl (Nat.le_of_ble_eq_true rfl) dX0_init_12 (kw_dset cy a rw S5 i6 (p9, .inr (1, [.long f7, .ref q2, f9, .int f10, .int f11]))) ?_
  refine z_aload_n b dX0_init_15 rfl rfl ?_
  obtain ⟨g13, h⟩ := h
  refine z_new (fs := [.int 0, .null, .int 0]) (N := 3) (ci := 0) tyJx4a65c b in_Jx4a65c tyJx4a65c_ok wk_X0_7 wn_Jx4a65c w0_Jx4a65c rfl tyJx4a65c_df g13 dX0_init_16 (fun q14 => ?_)
  replace h := h q14
  refine z_wseq (kw_newv cy a rw (ksL S5 (S5.2.2.2.set i6 (p9, .inr (1, [.long f7, .ref q2, f9, .int f10, .int f11])))) (q14, .inr (0, [.int 0, .null, .int 0]))) ?_
  refine z_dup b dX0_init_19 rfl ?_
  obtain ⟨g15, h⟩ := h
  refine z_callv b (z_runI (As := []) (st := [.ref q14, .ref p9]) b (k_Jx4a65c_init_da8c8 hrw (ksL (ksL S5 (S5.2.2.2.set i6 (p9, .inr (1, [.long f7, .ref q2, f9, .int f10, .int f11])))) (vn (S5.2.2.2.set i6 (p9, .inr (1, [.long f7, .ref q2, f9, .int f10, .int f11]))) (q14, .inr (0, [.int 0, .null, .int 0])))) q14 _ h) cf_Jx4a65c_init_da8c8 wm_X0_9 wi_Jx4a65c_init_da8c8 rfl dX0_init_20 rfl (Nat.le_of_ble_eq_true rfl) ⟨by decide, by decide, g15.1, g15.2⟩) (fun S17 h => ?_)
  obtain ⟨i18, f19, f20, f21, f22, f23, g24, h⟩ := h
  refine z_putF (q0 := 47 + i18) (k9 := 2) tyX0 b (kw_dyn cy a rw S17 g24) rfl in_X0 tyX0_ok nmX0 (by decide) wf_X0_16 rfl rfl rfl rfl rfl rfl (Nat.le_of_ble_eq_true rfl) dX0_init_23 (kw_dset cy a rw S17 i18 (p9, .inr (1, [.long f19, f20, .ref q14, .int f22, .int f23]))) ?_
  refine z_aload_n b dX0_init_26 rfl rfl ?_
  refine z_iconst (v := 0) b dX0_init_27 (by decide) ?_
  obtain ⟨i25, f26, f27, f28, f29, f30, g31, h⟩ := h
  refine z_put (q0 := 47 + i25) (k9 := 3) tyX0 b (kw_dyn cy a rw (ksL S17 (S17.2.2.2.set i18 (p9, .inr (1, [.long f19, f20, .ref q14, .int f22, .int f23])))) g31) rfl in_X0 tyX0_ok nmX0 (by decide) wf_X0_19 rfl rfl rfl rfl (Nat.le_of_ble_eq_true rfl) dX0_init_28 (kw_dset cy a rw (ksL S17 (S17.2.2.2.set i18 (p9, .inr (1, [.long f19, f20, .ref q14, .int f22, .int f23])))) i25 (p9, .inr (1, [.long f26, f27, f28, .int 0, .int f30]))) ?_
  refine z_aload_n b dX0_init_31 rfl rfl ?_
  refine z_iconst (v := 0) b dX0_init_32 (by decide) ?_
  obtain ⟨i32, f33, f34, f35, f36, f37, g38, h⟩ := h
  refine z_put (q0 := 47 + i32) (k9 := 4) tyX0 b (kw_dyn cy a rw (ksL (ksL S17 (S17.2.2.2.set i18 (p9, .inr (1, [.long f19, f20, .ref q14, .int f22, .int f23])))) ((S17.2.2.2.set i18 (p9, .inr (1, [.long f19, f20, .ref q14, .int f22, .int f23]))).set i25 (p9, .inr (1, [.long f26, f27, f28, .int 0, .int f30])))) g38) rfl in_X0 tyX0_ok nmX0 (by decide) wf_X0_23 rfl rfl rfl rfl (Nat.le_of_ble_eq_true rfl) dX0_init_33 (kw_dset cy a rw (ksL (ksL S17 (S17.2.2.2.set i18 (p9, .inr (1, [.long f19, f20, .ref q14, .int f22, .int f23])))) ((S17.2.2.2.set i18 (p9, .inr (1, [.long f19, f20, .ref q14, .int f22, .int f23]))).set i25 (p9, .inr (1, [.long f26, f27, f28, .int 0, .int f30])))) i32 (p9, .inr (1, [.long f33, f34, f35, .int f36, .int 0]))) ?_
  refine z_aload_n b dX0_init_36 rfl rfl ?_
  refine z_lload_n b dX0_init_37 rfl rfl ?_
  obtain ⟨i39, f40, f41, f42, f43, f44, g45, h⟩ := h
  refine z_putF (q0 := 47 + i39) (k9 := 0) tyX0 b (kw_dyn cy a rw (ksL (ksL (ksL S17 (S17.2.2.2.set i18 (p9, .inr (1, [.long f19, f20, .ref q14, .int f22, .int f23])))) ((S17.2.2.2.set i18 (p9, .inr (1, [.long f19, f20, .ref q14, .int f22, .int f23]))).set i25 (p9, .inr (1, [.long f26, f27, f28, .int 0, .int f30])))) (((S17.2.2.2.set i18 (p9, .inr (1, [.long f19, f20, .ref q14, .int f22, .int f23]))).set i25 (p9, .inr (1, [.long f26, f27, f28, .int 0, .int f30]))).set i32 (p9, .inr (1, [.long f33, f34, f35, .int f36, .int 0])))) g45) rfl in_X0 tyX0_ok nmX0 (by decide) wf_X0_26 rfl rfl rfl rfl rfl rfl (Nat.le_of_ble_eq_true rfl) dX0_init_38 (kw_dset cy a rw (ksL (ksL (ksL S17 (S17.2.2.2.set i18 (p9, .inr (1, [.long f19, f20, .ref q14, .int f22, .int f23])))) ((S17.2.2.2.set i18 (p9, .inr (1, [.long f19, f20, .ref q14, .int f22, .int f23]))).set i25 (p9, .inr (1, [.long f26, f27, f28, .int 0, .int f30])))) (((S17.2.2.2.set i18 (p9, .inr (1, [.long f19, f20, .ref q14, .int f22, .int f23]))).set i25 (p9, .inr (1, [.long f26, f27, f28, .int 0, .int f30]))).set i32 (p9, .inr (1, [.long f33, f34, f35, .int f36, .int 0])))) i39 (p9, .inr (1, [.long p0, f41, f42, .int f43, .int f44]))) ?_
  obtain ⟨g46, h⟩ := h
  exact z_vret (u := (ksL (ksL (ksL (ksL S17 (S17.2.2.2.set i18 (p9, .inr (1, [.long f19, f20, .ref q14, .int f22, .int f23])))) ((S17.2.2.2.set i18 (p9, .inr (1, [.long f19, f20, .ref q14, .int f22, .int f23]))).set i25 (p9, .inr (1, [.long f26, f27, f28, .int 0, .int f30])))) (((S17.2.2.2.set i18 (p9, .inr (1, [.long f19, f20, .ref q14, .int f22, .int f23]))).set i25 (p9, .inr (1, [.long f26, f27, f28, .int 0, .int f30]))).set i32 (p9, .inr (1, [.long f33, f34, f35, .int f36, .int 0])))) ((((S17.2.2.2.set i18 (p9, .inr (1, [.long f19, f20, .ref q14, .int f22, .int f23]))).set i25 (p9, .inr (1, [.long f26, f27, f28, .int 0, .int f30]))).set i32 (p9, .inr (1, [.long f33, f34, f35, .int f36, .int 0]))).set i39 (p9, .inr (1, [.long p0, f41, f42, .int f43, .int f44]))))) b rfl dX0_init_41 h rfl g46.1 g46.2

def w_X5_isNamed_F2 (cy : Nat → ClassId) (tE : Nat) (post : Int32 → KS → Prop) (k40 : KS → Prop) (k2 : KS → Int64 → Int32 → Prop) (S : KS) (x1 : Int64) (x3 : Int32) : Prop :=
  ∃ (i1 : Nat) (f2 : List Value), S.2.2.2[i1]? = some ((S.2.1 0), .inr (0, f2)) ∧ w_Jx4a65c_size_8abf5 cy tE S (S.2.1 0) (fun r4 S5 => ((r4.toInt ≤ x3.toInt → k40 S5) ∧ (x3.toInt < r4.toInt → ∃ (i6 : Nat) (f7 : List Value), S5.2.2.2[i6]? = some ((S5.2.1 0), .inr (0, f7)) ∧ w_Jx4a65c_get_915e3 cy tE S5 (S5.2.1 0) x3 (fun r9 S10 => ∃ q11 : Nat, r9 = some q11 ∧ ∃ (i13 : Nat) (f14 : List Value), S10.2.2.2[i13]? = some (q11, .inr (1, f14)) ∧ ∃ (i16 : Nat) (f17 : Int64) (f18 : Value) (f19 : Value) (f20 : Int32) (f21 : Int32), S10.2.2.2[i16]? = some (q11, .inr (1, [.long f17, f18, f19, .int f20, .int f21])) ∧ (((lg_cmp f17 x1).toInt ≠ 0 → k2 S10 x1 (x3 + 1)) ∧ ((lg_cmp f17 x1).toInt = 0 → post 1 S10))))))

set_option maxHeartbeats 200000 in
set_option maxRecDepth 100000 in
theorem z_X5_isNamed_F2 {p : Program} {l : Launch} {e : Env} {R : Room} {s : State} {m : MethodId} {args : Array Value} {below : List Frame} {meth : Method} {c : Code} {D : va_G} {cy : Nat → ClassId} {T0 tB tE : Nat} {A : Nat → Prop} {a : Nat → Nat} {rw : Nat → Option Nat} (hrw : ∀ i, i < 6 → rw i = some (a (12 + 2 * i))) {post : Int32 → KS → Prop} {k40 : KS → Prop} {k2 : KS → Int64 → Int32 → Prop} (b : Bz p R s m args meth c D cy T0 tB tE A 4 cX5_isNamed RX5 (some .boolean) "isNamed" 3 64 0 0) (hk40 : ∀ (S : KS), k40 S → Z p l e R s m args below meth c D A 4 (MQ below (QI D (U := KS) post (kw cy a rw) A) args s 0 0 A) 0 0 (kw cy a rw S) [] 40 []) (hk2 : ∀ (S : KS) (x1 : Int64) (x3 : Int32), k2 S x1 x3 → Z p l e R s m args below meth c D A 4 (MQ below (QI D (U := KS) post (kw cy a rw) A) args s 0 0 A) 0 0 (kw cy a rw S) [(0, .ref (a 26)), (1, .long x1), (3, .int x3)] 2 []) (S : KS) (x1 : Int64) (x3 : Int32) (h : w_X5_isNamed_F2 cy tE post k40 k2 S x1 x3) : Z p l e R s m args below meth c D A 4 (MQ below (QI D (U := KS) post (kw cy a rw) A) args s 0 0 A) 0 0 (kw cy a rw S) [(0, .ref (a 26)), (1, .long x1), (3, .int x3)] 2 [] := by
  unfold w_X5_isNamed_F2 at h
  refine z_iload_n b dX5_isNamed_2 rfl rfl ?_
  refine z_aload_n b dX5_isNamed_3 rfl rfl ?_
  refine z_get (q0 := 26) (k9 := 6) (v := .ref (S.2.1 0)) b (kw_26 cy a rw S) rfl in_X5 (by decide) wf_X5_39 rfl dX5_isNamed_4 ?_
  obtain ⟨i1, f2, g3, h⟩ := h
  refine z_calli b (z_runV (q0 := 47 + i1) (As := []) (st := [.int x3]) b (k_Jx4a65c_size_8abf5 hrw S (S.2.1 0) _ h) cf_Jx4a65c_size_8abf5 (kw_dyn cy a rw S g3) rfl wm_X5_85 wi_Jx4a65c_size_8abf5 ws_Jx4a65c_size_8abf5 dX5_isNamed_7 rfl (Nat.le_of_ble_eq_true rfl) ⟨by decide, by decide, Nat.le_of_ble_eq_true rfl, Nat.le_of_ble_eq_true rfl⟩) (fun r4 S5 h => ?_)
  refine y_icmp_ge (tgt := 40) (xl := x3.toInt) (yl := r4.toInt) b rfl rfl dX5_isNamed_10 (by decide) (fun c1 => ?_) (fun c1 => ?_)
  · replace h := h.1 c1
    refine z_lv0 (lv' := []) [] rfl ?_
    exact hk40 _ h
  · replace h := h.2 c1
    refine z_aload_n b dX5_isNamed_13 rfl rfl ?_
    refine z_get (q0 := 26) (k9 := 6) (v := .ref (S5.2.1 0)) b (kw_26 cy a rw S5) rfl in_X5 (by decide) wf_X5_39 rfl dX5_isNamed_14 ?_
    refine z_iload_n b dX5_isNamed_17 rfl rfl ?_
    obtain ⟨i6, f7, g8, h⟩ := h
    refine z_callq b (z_runV (q0 := 47 + i6) (As := [.int x3]) (st := []) b (k_Jx4a65c_get_915e3 hrw S5 (S5.2.1 0) x3 _ h) cf_Jx4a65c_get_915e3 (kw_dyn cy a rw S5 g8) rfl wm_X5_129 wi_Jx4a65c_get_915e3 ws_Jx4a65c_get_915e3 dX5_isNamed_18 rfl (Nat.le_of_ble_eq_true rfl) ⟨by decide, by decide, Nat.le_of_ble_eq_true rfl, Nat.le_of_ble_eq_true rfl⟩) (fun r9 S10 h => ?_)
    obtain ⟨q11, g12, h⟩ := h
    subst g12
    obtain ⟨i13, f14, g15, h⟩ := h
    refine z_cast (q0 := 47 + i13) (ci := 1) b wk_X5_88 (kw_dyn cy a rw S10 g15) rfl dX5_isNamed_21 ?_
    obtain ⟨i16, f17, f18, f19, f20, f21, g22, h⟩ := h
    refine z_get (q0 := 47 + i16) (k9 := 0) (v := .long f17) b (kw_dyn cy a rw S10 g22) rfl in_X0 (by decide) wf_X5_97 rfl dX5_isNamed_24 ?_
    refine z_lload_n b dX5_isNamed_27 rfl rfl ?_
    refine z_lcmp b dX5_isNamed_28 rfl ?_
    refine y_if_ne (tgt := 34) (xl := (lg_cmp f17 x1).toInt) b rfl dX5_isNamed_29 (by decide) (fun c1 => ?_) (fun c1 => ?_)
    · replace h := h.1 c1
      refine z_iinc (k9 := 2) (v := (x3 + 1)) (lv' := [(3, .int (x3 + 1)), (0, .ref (a 26)), (1, .long x1)]) b dX5_isNamed_34 rfl rfl (by decide) rfl ?_
      refine z_goto (tgt := 2) b dX5_isNamed_37 (by decide) ?_
      refine z_lv0 (lv' := [(0, .ref (a 26)), (1, .long x1), (3, .int (x3 + 1))]) [1, 2, 0] rfl ?_
      exact hk2 _ _ _ h
    · replace h := h.2 c1
      refine z_iconst (v := 1) b dX5_isNamed_32 (by decide) ?_
      exact z_zret (u := S10) b rfl (by decide) dX5_isNamed_33 h rfl (by decide) (by decide)

set_option maxHeartbeats 200000 in
set_option maxRecDepth 100000 in
theorem zl_X5_isNamed_L2 {p : Program} {l : Launch} {e : Env} {R : Room} {s : State} {m : MethodId} {args : Array Value} {below : List Frame} {meth : Method} {c : Code} {D : va_G} {cy : Nat → ClassId} {T0 tB tE : Nat} {A : Nat → Prop} {a : Nat → Nat} {rw : Nat → Option Nat} (hrw : ∀ i, i < 6 → rw i = some (a (12 + 2 * i))) {post : Int32 → KS → Prop} {k40 : KS → Prop} (b : Bz p R s m args meth c D cy T0 tB tE A 4 cX5_isNamed RX5 (some .boolean) "isNamed" 3 64 0 0) (hk40 : ∀ (S : KS), k40 S → Z p l e R s m args below meth c D A 4 (MQ below (QI D (U := KS) post (kw cy a rw) A) args s 0 0 A) 0 0 (kw cy a rw S) [] 40 []) : ∀ (n : Nat) (S : KS) (x1 : Int64) (x3 : Int32), lpn (w_X5_isNamed_F2 cy tE post k40) (fun _ _ _ => False) n S x1 x3 → Z p l e R s m args below meth c D A 4 (MQ below (QI D (U := KS) post (kw cy a rw) A) args s 0 0 A) 0 0 (kw cy a rw S) [(0, .ref (a 26)), (1, .long x1), (3, .int x3)] 2 [] := by
  intro n
  induction n with
  | zero => intro _ _ _ h; exact h.elim
  | succ n ih => intro S x1 x3 h; exact z_X5_isNamed_F2 hrw b hk40 ih S x1 x3 h

def w_X5_isNamed_B40 (cy : Nat → ClassId) (tE : Nat) (post : Int32 → KS → Prop) (S : KS)  : Prop :=
  post 0 S

set_option maxHeartbeats 200000 in
set_option maxRecDepth 100000 in
theorem z_X5_isNamed_B40 {p : Program} {l : Launch} {e : Env} {R : Room} {s : State} {m : MethodId} {args : Array Value} {below : List Frame} {meth : Method} {c : Code} {D : va_G} {cy : Nat → ClassId} {T0 tB tE : Nat} {A : Nat → Prop} {a : Nat → Nat} {rw : Nat → Option Nat} (hrw : ∀ i, i < 6 → rw i = some (a (12 + 2 * i))) {post : Int32 → KS → Prop} (b : Bz p R s m args meth c D cy T0 tB tE A 4 cX5_isNamed RX5 (some .boolean) "isNamed" 3 64 0 0) (S : KS)  (h : w_X5_isNamed_B40 cy tE post S ) : Z p l e R s m args below meth c D A 4 (MQ below (QI D (U := KS) post (kw cy a rw) A) args s 0 0 A) 0 0 (kw cy a rw S) [] 40 [] := by
  unfold w_X5_isNamed_B40 at h
  refine z_iconst (v := 0) b dX5_isNamed_40 (by decide) ?_
  exact z_zret (u := S) b rfl (by decide) dX5_isNamed_41 h rfl (by decide) (by decide)

def w_X5_isNamed (cy : Nat → ClassId) (tE : Nat) (S : KS) (p0 : Int64) (post : Int32 → KS → Prop) : Prop :=
  ∃ n, lpn (w_X5_isNamed_F2 cy tE post (w_X5_isNamed_B40 cy tE post)) (fun _ _ _ => False) n S p0 0

set_option maxHeartbeats 200000 in
set_option maxRecDepth 100000 in
theorem k_X5_isNamed {l : Launch} {D : va_G} {cy : Nat → ClassId} {T0 tB tE : Nat} {a : Nat → Nat} {rw : Nat → Option Nat} (hrw : ∀ i, i < 6 → rw i = some (a (12 + 2 * i))) (S : KS) (p0 : Int64) (post : Int32 → KS → Prop) (h : w_X5_isNamed cy tE S p0 post) : Ct l D cy T0 tB tE yX5_isNamed cX5_isNamed 4 (some .boolean) 3 64 0 0 (kw cy a rw S) [.ref (a 26), .long p0] (QI D (U := KS) post (kw cy a rw)) := by
  refine Ct.ofZ RX5 "isNamed" [(0, .ref (a 26)), (1, .long p0)] rfl rfl rfl rfl (Nat.le_of_ble_eq_true rfl) ?_
  intro p e R s m args below meth c A b
  unfold w_X5_isNamed at h
  refine z_iconst (v := 0) b dX5_isNamed_0 (by decide) ?_
  refine z_istore_n (lv' := [(3, .int 0), (0, .ref (a 26)), (1, .long p0)]) b dX5_isNamed_1 rfl (by decide) rfl ?_
  refine z_lv0 (lv' := [(0, .ref (a 26)), (1, .long p0), (3, .int 0)]) [1, 2, 0] rfl ?_
  obtain ⟨n, h⟩ := h
  exact zl_X5_isNamed_L2 hrw b (fun S h => z_X5_isNamed_B40 hrw b _ h) n _ _ _ h

def w_X8_listCodes_B111 (cy : Nat → ClassId) (tE : Nat) (post : KS → Prop) (k7 : KS → Int32 → Prop) (k117 : KS → Prop) (S : KS) (x1 : Int32) : Prop :=
  k7 S (x1 + 1)

set_option maxHeartbeats 200000 in
set_option maxRecDepth 100000 in
theorem z_X8_listCodes_B111 {p : Program} {l : Launch} {e : Env} {R : Room} {s : State} {m : MethodId} {args : Array Value} {below : List Frame} {meth : Method} {c : Code} {D : va_G} {cy : Nat → ClassId} {T0 tB tE : Nat} {A : Nat → Prop} {a : Nat → Nat} {rw : Nat → Option Nat} (hrw : ∀ i, i < 6 → rw i = some (a (12 + 2 * i))) {post : KS → Prop} {k7 : KS → Int32 → Prop} {k117 : KS → Prop} (b : Bz p R s m args meth c D cy T0 tB tE A 4 cX8_listCodes RX8 none "listCodes" 2 48 0 0) (hk7 : ∀ (S : KS) (x1 : Int32), k7 S x1 → Z p l e R s m args below meth c D A 4 (MQ below (QV D (U := KS) post (kw cy a rw) A) args s 0 0 A) 0 0 (kw cy a rw S) [(0, .ref (a 38)), (1, .int x1)] 7 []) (hk117 : ∀ (S : KS), k117 S → Z p l e R s m args below meth c D A 4 (MQ below (QV D (U := KS) post (kw cy a rw) A) args s 0 0 A) 0 0 (kw cy a rw S) [] 117 []) (S : KS) (x1 : Int32) (h : w_X8_listCodes_B111 cy tE post k7 k117 S x1) : Z p l e R s m args below meth c D A 4 (MQ below (QV D (U := KS) post (kw cy a rw) A) args s 0 0 A) 0 0 (kw cy a rw S) [(0, .ref (a 38)), (1, .int x1)] 111 [] := by
  unfold w_X8_listCodes_B111 at h
  refine z_iinc (k9 := 1) (v := (x1 + 1)) (lv' := [(1, .int (x1 + 1)), (0, .ref (a 38))]) b dX8_listCodes_111 rfl rfl (by decide) rfl ?_
  refine z_goto (tgt := 7) b dX8_listCodes_114 (by decide) ?_
  refine z_lv0 (lv' := [(0, .ref (a 38)), (1, .int (x1 + 1))]) [1, 0] rfl ?_
  exact hk7 _ _ h

def w_X8_listCodes_B56 (cy : Nat → ClassId) (tE : Nat) (post : KS → Prop) (k7 : KS → Int32 → Prop) (k117 : KS → Prop) (S : KS) (x1 : Int32) (y0 : Int32) : Prop :=
  ((y0.toInt = 0 → w_X8_listCodes_B111 cy tE post k7 k117 S x1) ∧ (y0.toInt ≠ 0 → ((216 ≤ (fi S.1 26).toInt → w_X8_listCodes_B111 cy tE post k7 k117 S x1) ∧ ((fi S.1 26).toInt < 216 → w_X4_actOf cy tE S x1 (fi S.1 27) (fun r5 S6 => ((r5 = none → w_X8_listCodes_B111 cy tE post k7 k117 S6 x1) ∧ (∀ q7 : Nat, r5 = some q7 → (0 ≤ (fi S6.1 26).toInt ∧ (fi S6.1 26).toInt < 216) ∧ w_X8_listCodes_B111 cy tE post k7 k117 (ksi (ksu S6 21 ((fi S6.1 26).toNatClampNeg) x1) 26 ((fi S6.1 26) + 1)) x1)))))))

set_option maxHeartbeats 200000 in
set_option maxRecDepth 100000 in
theorem z_X8_listCodes_B56 {p : Program} {l : Launch} {e : Env} {R : Room} {s : State} {m : MethodId} {args : Array Value} {below : List Frame} {meth : Method} {c : Code} {D : va_G} {cy : Nat → ClassId} {T0 tB tE : Nat} {A : Nat → Prop} {a : Nat → Nat} {rw : Nat → Option Nat} (hrw : ∀ i, i < 6 → rw i = some (a (12 + 2 * i))) {post : KS → Prop} {k7 : KS → Int32 → Prop} {k117 : KS → Prop} (b : Bz p R s m args meth c D cy T0 tB tE A 4 cX8_listCodes RX8 none "listCodes" 2 48 0 0) (hk7 : ∀ (S : KS) (x1 : Int32), k7 S x1 → Z p l e R s m args below meth c D A 4 (MQ below (QV D (U := KS) post (kw cy a rw) A) args s 0 0 A) 0 0 (kw cy a rw S) [(0, .ref (a 38)), (1, .int x1)] 7 []) (hk117 : ∀ (S : KS), k117 S → Z p l e R s m args below meth c D A 4 (MQ below (QV D (U := KS) post (kw cy a rw) A) args s 0 0 A) 0 0 (kw cy a rw S) [] 117 []) (S : KS) (x1 : Int32) (y0 : Int32) (h : w_X8_listCodes_B56 cy tE post k7 k117 S x1 y0) : Z p l e R s m args below meth c D A 4 (MQ below (QV D (U := KS) post (kw cy a rw) A) args s 0 0 A) 0 0 (kw cy a rw S) [(0, .ref (a 38)), (1, .int x1)] 56 [.int y0] := by
  unfold w_X8_listCodes_B56 at h
  refine z_istore_n (lv' := [(3, .int y0), (0, .ref (a 38)), (1, .int x1)]) b dX8_listCodes_56 rfl (by decide) rfl ?_
  refine z_iload_n b dX8_listCodes_57 rfl rfl ?_
  refine y_if_eq (tgt := 111) (xl := y0.toInt) b rfl dX8_listCodes_58 (by decide) (fun c1 => ?_) (fun c1 => ?_)
  · replace h := h.1 c1
    refine z_lv0 (lv' := [(0, .ref (a 38)), (1, .int x1)]) [1, 2] rfl ?_
    exact z_X8_listCodes_B111 hrw b hk7 hk117 _ _ h
  · replace h := h.2 c1
    refine z_aload_n b dX8_listCodes_61 rfl rfl ?_
    refine z_get (q0 := 38) (k9 := 10) (v := .int (fi S.1 26)) b (kw_38 cy a rw S) rfl in_X8 (by decide) wf_X8_41 rfl dX8_listCodes_62 ?_
    refine z_aload_n b dX8_listCodes_65 rfl rfl ?_
    refine z_get (q0 := 38) (k9 := 9) (v := .ref (a 45)) b (kw_38 cy a rw S) rfl in_X8 (by decide) wf_X8_38 rfl dX8_listCodes_66 ?_
    refine z_alen (q0 := 45) (t0 := 0) (v := 216) b (kw_45 cy a rw S) rfl rfl dX8_listCodes_69 ?_
    refine y_icmp_ge (tgt := 111) (xl := (fi S.1 26).toInt) (yl := 216) b rfl (by decide) dX8_listCodes_70 (by decide) (fun c1 => ?_) (fun c1 => ?_)
    · replace h := h.1 c1
      refine z_lv0 (lv' := [(0, .ref (a 38)), (1, .int x1)]) [1, 2] rfl ?_
      exact z_X8_listCodes_B111 hrw b hk7 hk117 _ _ h
    · replace h := h.2 c1
      refine z_aload_n b dX8_listCodes_73 rfl rfl ?_
      refine z_get (q0 := 38) (k9 := 0) (v := .ref (a 35)) b (kw_38 cy a rw S) rfl in_X8 (by decide) wf_X8_70 rfl dX8_listCodes_74 ?_
      refine z_get (q0 := 35) (k9 := 0) (v := .ref (a 33)) b (kw_35 cy a rw S) rfl in_X2 (by decide) wf_X8_101 rfl dX8_listCodes_77 ?_
      refine z_iload_n b dX8_listCodes_80 rfl rfl ?_
      refine z_aload_n b dX8_listCodes_81 rfl rfl ?_
      refine z_get (q0 := 38) (k9 := 11) (v := .int (fi S.1 27)) b (kw_38 cy a rw S) rfl in_X8 (by decide) wf_X8_45 rfl dX8_listCodes_82 ?_
      refine z_callq b (z_runV (q0 := 33) (As := [.int x1, .int (fi S.1 27)]) (st := []) b (k_X4_actOf hrw S x1 (fi S.1 27) _ h) cf_X4_actOf (kw_33 cy a rw S) rfl wm_X8_107 wi_X4_actOf ws_X4_actOf dX8_listCodes_85 rfl (Nat.le_of_ble_eq_true rfl) ⟨by decide, by decide, Nat.le_of_ble_eq_true rfl, Nat.le_of_ble_eq_true rfl⟩) (fun r5 S6 h => ?_)
      cases r5 with
      | none =>
        replace h := h.1 rfl
        refine z_ifnullN (tgt := 111) b dX8_listCodes_88 (by decide) ?_
        refine z_lv0 (lv' := [(0, .ref (a 38)), (1, .int x1)]) [1, 2] rfl ?_
        exact z_X8_listCodes_B111 hrw b hk7 hk117 _ _ h
      | some q7 =>
        replace h := h.2 q7 rfl
        refine z_ifnull b dX8_listCodes_88 ?_
        refine z_aload_n b dX8_listCodes_91 rfl rfl ?_
        refine z_get (q0 := 38) (k9 := 9) (v := .ref (a 45)) b (kw_38 cy a rw S6) rfl in_X8 (by decide) wf_X8_38 rfl dX8_listCodes_92 ?_
        refine z_aload_n b dX8_listCodes_95 rfl rfl ?_
        refine z_get (q0 := 38) (k9 := 10) (v := .int (fi S6.1 26)) b (kw_38 cy a rw S6) rfl in_X8 (by decide) wf_X8_41 rfl dX8_listCodes_96 ?_
        refine z_iload_n b dX8_listCodes_99 rfl rfl ?_
        obtain ⟨g8, h⟩ := h
        refine y_iast (q0 := 45) (j := (fi S6.1 26).toNatClampNeg) b (kw_45 cy a rw S6) (zx_r g8.1 g8.2) dX8_listCodes_100 (kwa_45 cy a rw S6 ((fi S6.1 26).toNatClampNeg) x1) ?_
        refine z_aload_n b dX8_listCodes_101 rfl rfl ?_
        refine z_dup b dX8_listCodes_102 rfl ?_
        refine z_get (q0 := 38) (k9 := 10) (v := .int (fi S6.1 26)) b (kw_38 cy a rw (ksu S6 21 ((fi S6.1 26).toNatClampNeg) x1)) rfl in_X8 (by decide) wf_X8_41 rfl dX8_listCodes_103 ?_
        refine z_iconst (v := 1) b dX8_listCodes_106 (by decide) ?_
        refine z_iadd b dX8_listCodes_107 rfl ?_
        refine z_put (q0 := 38) (k9 := 10) tyX8 b (kw_38 cy a rw (ksu S6 21 ((fi S6.1 26).toNatClampNeg) x1)) rfl in_X8 tyX8_ok nmX8 (by decide) wf_X8_41 rfl rfl rfl rfl (Nat.le_of_ble_eq_true rfl) dX8_listCodes_108 (kwp_38_10 cy a rw (ksu S6 21 ((fi S6.1 26).toNatClampNeg) x1) ((fi S6.1 26) + 1)) ?_
        refine z_lv0 (lv' := [(0, .ref (a 38)), (1, .int x1)]) [1, 2] rfl ?_
        exact z_X8_listCodes_B111 hrw b hk7 hk117 _ _ h

def w_X8_listCodes_B55 (cy : Nat → ClassId) (tE : Nat) (post : KS → Prop) (k7 : KS → Int32 → Prop) (k117 : KS → Prop) (S : KS) (x1 : Int32) : Prop :=
  w_X8_listCodes_B56 cy tE post k7 k117 S x1 0

set_option maxHeartbeats 200000 in
set_option maxRecDepth 100000 in
theorem z_X8_listCodes_B55 {p : Program} {l : Launch} {e : Env} {R : Room} {s : State} {m : MethodId} {args : Array Value} {below : List Frame} {meth : Method} {c : Code} {D : va_G} {cy : Nat → ClassId} {T0 tB tE : Nat} {A : Nat → Prop} {a : Nat → Nat} {rw : Nat → Option Nat} (hrw : ∀ i, i < 6 → rw i = some (a (12 + 2 * i))) {post : KS → Prop} {k7 : KS → Int32 → Prop} {k117 : KS → Prop} (b : Bz p R s m args meth c D cy T0 tB tE A 4 cX8_listCodes RX8 none "listCodes" 2 48 0 0) (hk7 : ∀ (S : KS) (x1 : Int32), k7 S x1 → Z p l e R s m args below meth c D A 4 (MQ below (QV D (U := KS) post (kw cy a rw) A) args s 0 0 A) 0 0 (kw cy a rw S) [(0, .ref (a 38)), (1, .int x1)] 7 []) (hk117 : ∀ (S : KS), k117 S → Z p l e R s m args below meth c D A 4 (MQ below (QV D (U := KS) post (kw cy a rw) A) args s 0 0 A) 0 0 (kw cy a rw S) [] 117 []) (S : KS) (x1 : Int32) (h : w_X8_listCodes_B55 cy tE post k7 k117 S x1) : Z p l e R s m args below meth c D A 4 (MQ below (QV D (U := KS) post (kw cy a rw) A) args s 0 0 A) 0 0 (kw cy a rw S) [(0, .ref (a 38)), (1, .int x1)] 55 [] := by
  unfold w_X8_listCodes_B55 at h
  refine z_iconst (v := 0) b dX8_listCodes_55 (by decide) ?_
  exact z_X8_listCodes_B56 hrw b hk7 hk117 _ _ _ h

def w_X8_listCodes_B51 (cy : Nat → ClassId) (tE : Nat) (post : KS → Prop) (k7 : KS → Int32 → Prop) (k117 : KS → Prop) (S : KS) (x1 : Int32) : Prop :=
  w_X8_listCodes_B56 cy tE post k7 k117 S x1 1

set_option maxHeartbeats 200000 in
set_option maxRecDepth 100000 in
theorem z_X8_listCodes_B51 {p : Program} {l : Launch} {e : Env} {R : Room} {s : State} {m : MethodId} {args : Array Value} {below : List Frame} {meth : Method} {c : Code} {D : va_G} {cy : Nat → ClassId} {T0 tB tE : Nat} {A : Nat → Prop} {a : Nat → Nat} {rw : Nat → Option Nat} (hrw : ∀ i, i < 6 → rw i = some (a (12 + 2 * i))) {post : KS → Prop} {k7 : KS → Int32 → Prop} {k117 : KS → Prop} (b : Bz p R s m args meth c D cy T0 tB tE A 4 cX8_listCodes RX8 none "listCodes" 2 48 0 0) (hk7 : ∀ (S : KS) (x1 : Int32), k7 S x1 → Z p l e R s m args below meth c D A 4 (MQ below (QV D (U := KS) post (kw cy a rw) A) args s 0 0 A) 0 0 (kw cy a rw S) [(0, .ref (a 38)), (1, .int x1)] 7 []) (hk117 : ∀ (S : KS), k117 S → Z p l e R s m args below meth c D A 4 (MQ below (QV D (U := KS) post (kw cy a rw) A) args s 0 0 A) 0 0 (kw cy a rw S) [] 117 []) (S : KS) (x1 : Int32) (h : w_X8_listCodes_B51 cy tE post k7 k117 S x1) : Z p l e R s m args below meth c D A 4 (MQ below (QV D (U := KS) post (kw cy a rw) A) args s 0 0 A) 0 0 (kw cy a rw S) [(0, .ref (a 38)), (1, .int x1)] 51 [] := by
  unfold w_X8_listCodes_B51 at h
  refine z_iconst (v := 1) b dX8_listCodes_51 (by decide) ?_
  refine z_goto (tgt := 56) b dX8_listCodes_52 (by decide) ?_
  exact z_X8_listCodes_B56 hrw b hk7 hk117 _ _ _ h

def w_X8_listCodes_F7 (cy : Nat → ClassId) (tE : Nat) (post : KS → Prop) (k117 : KS → Prop) (k7 : KS → Int32 → Prop) (S : KS) (x1 : Int32) : Prop :=
  ((768 ≤ x1.toInt → k117 S) ∧ (x1.toInt < 768 → w_X11_otherOf cy tE S x1 (fun r1 S2 => w_X11_doerOf cy tE S2 x1 (fun r3 S4 => (((((fi S2.1 29) >>> (r3 &&& 31)) &&& 1).toInt ≠ 1 → w_X8_listCodes_B55 cy tE post k7 k117 S4 x1) ∧ ((((fi S2.1 29) >>> (r3 &&& 31)) &&& 1).toInt = 1 → ((r1.toInt = 3 → w_X8_listCodes_B51 cy tE post k7 k117 S4 x1) ∧ (r1.toInt ≠ 3 → (((((fi S4.1 29) >>> (r1 &&& 31)) &&& 1).toInt ≠ 1 → w_X8_listCodes_B55 cy tE post k7 k117 S4 x1) ∧ ((((fi S4.1 29) >>> (r1 &&& 31)) &&& 1).toInt = 1 → w_X8_listCodes_B51 cy tE post k7 k117 S4 x1))))))))))

set_option maxHeartbeats 200000 in
set_option maxRecDepth 100000 in
theorem z_X8_listCodes_F7 {p : Program} {l : Launch} {e : Env} {R : Room} {s : State} {m : MethodId} {args : Array Value} {below : List Frame} {meth : Method} {c : Code} {D : va_G} {cy : Nat → ClassId} {T0 tB tE : Nat} {A : Nat → Prop} {a : Nat → Nat} {rw : Nat → Option Nat} (hrw : ∀ i, i < 6 → rw i = some (a (12 + 2 * i))) {post : KS → Prop} {k117 : KS → Prop} {k7 : KS → Int32 → Prop} (b : Bz p R s m args meth c D cy T0 tB tE A 4 cX8_listCodes RX8 none "listCodes" 2 48 0 0) (hk117 : ∀ (S : KS), k117 S → Z p l e R s m args below meth c D A 4 (MQ below (QV D (U := KS) post (kw cy a rw) A) args s 0 0 A) 0 0 (kw cy a rw S) [] 117 []) (hk7 : ∀ (S : KS) (x1 : Int32), k7 S x1 → Z p l e R s m args below meth c D A 4 (MQ below (QV D (U := KS) post (kw cy a rw) A) args s 0 0 A) 0 0 (kw cy a rw S) [(0, .ref (a 38)), (1, .int x1)] 7 []) (S : KS) (x1 : Int32) (h : w_X8_listCodes_F7 cy tE post k117 k7 S x1) : Z p l e R s m args below meth c D A 4 (MQ below (QV D (U := KS) post (kw cy a rw) A) args s 0 0 A) 0 0 (kw cy a rw S) [(0, .ref (a 38)), (1, .int x1)] 7 [] := by
  unfold w_X8_listCodes_F7 at h
  refine z_iload_n b dX8_listCodes_7 rfl rfl ?_
  refine z_sipush (v := 768) b dX8_listCodes_8 (by decide) ?_
  refine y_icmp_ge (tgt := 117) (xl := x1.toInt) (yl := 768) b rfl (by decide) dX8_listCodes_11 (by decide) (fun c1 => ?_) (fun c1 => ?_)
  · replace h := h.1 c1
    refine z_lv0 (lv' := []) [] rfl ?_
    exact hk117 _ h
  · replace h := h.2 c1
    refine z_iload_n b dX8_listCodes_14 rfl rfl ?_
    refine z_calli b (z_runSN (As := [.int x1]) (st := []) b (k_X11_otherOf hrw S x1 _ h) cf_X11_otherOf (nw_X8_94) ws_X11_otherOf dX8_listCodes_15 rfl (Nat.le_of_ble_eq_true rfl) ⟨by decide, by decide, Nat.le_of_ble_eq_true rfl, Nat.le_of_ble_eq_true rfl⟩) (fun r1 S2 h => ?_)
    refine z_istore_n (lv' := [(2, .int r1), (0, .ref (a 38)), (1, .int x1)]) b dX8_listCodes_18 rfl (by decide) rfl ?_
    refine z_aload_n b dX8_listCodes_19 rfl rfl ?_
    refine z_get (q0 := 38) (k9 := 13) (v := .int (fi S2.1 29)) b (kw_38 cy a rw S2) rfl in_X8 (by decide) wf_X8_51 rfl dX8_listCodes_20 ?_
    refine z_iload_n b dX8_listCodes_23 rfl rfl ?_
    refine z_calli b (z_runSN (As := [.int x1]) (st := [.int (fi S2.1 29)]) b (k_X11_doerOf hrw S2 x1 _ h) cf_X11_doerOf (nw_X8_98) ws_X11_doerOf dX8_listCodes_24 rfl (Nat.le_of_ble_eq_true rfl) ⟨by decide, by decide, Nat.le_of_ble_eq_true rfl, Nat.le_of_ble_eq_true rfl⟩) (fun r3 S4 h => ?_)
    refine z_ishr b dX8_listCodes_27 rfl ?_
    refine z_iconst (v := 1) b dX8_listCodes_28 (by decide) ?_
    refine z_iand b dX8_listCodes_29 rfl ?_
    refine z_iconst (v := 1) b dX8_listCodes_30 (by decide) ?_
    refine y_icmp_ne (tgt := 55) (xl := (((fi S2.1 29) >>> (r3 &&& 31)) &&& 1).toInt) (yl := 1) b rfl (by decide) dX8_listCodes_31 (by decide) (fun c1 => ?_) (fun c1 => ?_)
    · replace h := h.1 c1
      refine z_lv0 (lv' := [(0, .ref (a 38)), (1, .int x1)]) [1, 2] rfl ?_
      exact z_X8_listCodes_B55 hrw b hk7 hk117 _ _ h
    · replace h := h.2 c1
      refine z_iload_n b dX8_listCodes_34 rfl rfl ?_
      refine z_iconst (v := 3) b dX8_listCodes_35 (by decide) ?_
      refine y_icmp_eq (tgt := 51) (xl := r1.toInt) (yl := 3) b rfl (by decide) dX8_listCodes_36 (by decide) (fun c1 => ?_) (fun c1 => ?_)
      · replace h := h.1 c1
        refine z_lv0 (lv' := [(0, .ref (a 38)), (1, .int x1)]) [1, 2] rfl ?_
        exact z_X8_listCodes_B51 hrw b hk7 hk117 _ _ h
      · replace h := h.2 c1
        refine z_aload_n b dX8_listCodes_39 rfl rfl ?_
        refine z_get (q0 := 38) (k9 := 13) (v := .int (fi S4.1 29)) b (kw_38 cy a rw S4) rfl in_X8 (by decide) wf_X8_51 rfl dX8_listCodes_40 ?_
        refine z_iload_n b dX8_listCodes_43 rfl rfl ?_
        refine z_ishr b dX8_listCodes_44 rfl ?_
        refine z_iconst (v := 1) b dX8_listCodes_45 (by decide) ?_
        refine z_iand b dX8_listCodes_46 rfl ?_
        refine z_iconst (v := 1) b dX8_listCodes_47 (by decide) ?_
        refine y_icmp_ne (tgt := 55) (xl := (((fi S4.1 29) >>> (r1 &&& 31)) &&& 1).toInt) (yl := 1) b rfl (by decide) dX8_listCodes_48 (by decide) (fun c1 => ?_) (fun c1 => ?_)
        · replace h := h.1 c1
          refine z_lv0 (lv' := [(0, .ref (a 38)), (1, .int x1)]) [1, 2] rfl ?_
          exact z_X8_listCodes_B55 hrw b hk7 hk117 _ _ h
        · replace h := h.2 c1
          refine z_lv0 (lv' := [(0, .ref (a 38)), (1, .int x1)]) [1, 2] rfl ?_
          exact z_X8_listCodes_B51 hrw b hk7 hk117 _ _ h

set_option maxHeartbeats 200000 in
set_option maxRecDepth 100000 in
theorem zl_X8_listCodes_L7 {p : Program} {l : Launch} {e : Env} {R : Room} {s : State} {m : MethodId} {args : Array Value} {below : List Frame} {meth : Method} {c : Code} {D : va_G} {cy : Nat → ClassId} {T0 tB tE : Nat} {A : Nat → Prop} {a : Nat → Nat} {rw : Nat → Option Nat} (hrw : ∀ i, i < 6 → rw i = some (a (12 + 2 * i))) {post : KS → Prop} {k117 : KS → Prop} (b : Bz p R s m args meth c D cy T0 tB tE A 4 cX8_listCodes RX8 none "listCodes" 2 48 0 0) (hk117 : ∀ (S : KS), k117 S → Z p l e R s m args below meth c D A 4 (MQ below (QV D (U := KS) post (kw cy a rw) A) args s 0 0 A) 0 0 (kw cy a rw S) [] 117 []) : ∀ (n : Nat) (S : KS) (x1 : Int32), lpn (w_X8_listCodes_F7 cy tE post k117) (fun _ _ => False) n S x1 → Z p l e R s m args below meth c D A 4 (MQ below (QV D (U := KS) post (kw cy a rw) A) args s 0 0 A) 0 0 (kw cy a rw S) [(0, .ref (a 38)), (1, .int x1)] 7 [] := by
  intro n
  induction n with
  | zero => intro _ _ h; exact h.elim
  | succ n ih => intro S x1 h; exact z_X8_listCodes_F7 hrw b hk117 ih S x1 h

def w_X8_listCodes_B117 (cy : Nat → ClassId) (tE : Nat) (post : KS → Prop) (S : KS)  : Prop :=
  post S

set_option maxHeartbeats 200000 in
set_option maxRecDepth 100000 in
theorem z_X8_listCodes_B117 {p : Program} {l : Launch} {e : Env} {R : Room} {s : State} {m : MethodId} {args : Array Value} {below : List Frame} {meth : Method} {c : Code} {D : va_G} {cy : Nat → ClassId} {T0 tB tE : Nat} {A : Nat → Prop} {a : Nat → Nat} {rw : Nat → Option Nat} (hrw : ∀ i, i < 6 → rw i = some (a (12 + 2 * i))) {post : KS → Prop} (b : Bz p R s m args meth c D cy T0 tB tE A 4 cX8_listCodes RX8 none "listCodes" 2 48 0 0) (S : KS)  (h : w_X8_listCodes_B117 cy tE post S ) : Z p l e R s m args below meth c D A 4 (MQ below (QV D (U := KS) post (kw cy a rw) A) args s 0 0 A) 0 0 (kw cy a rw S) [] 117 [] := by
  unfold w_X8_listCodes_B117 at h
  exact z_vret (u := S) b rfl dX8_listCodes_117 h rfl (by decide) (by decide)

def w_X8_listCodes (cy : Nat → ClassId) (tE : Nat) (S : KS)  (post : KS → Prop) : Prop :=
  ∃ n, lpn (w_X8_listCodes_F7 cy tE post (w_X8_listCodes_B117 cy tE post)) (fun _ _ => False) n (ksi S 26 0) 0

set_option maxHeartbeats 200000 in
set_option maxRecDepth 100000 in
theorem k_X8_listCodes {l : Launch} {D : va_G} {cy : Nat → ClassId} {T0 tB tE : Nat} {a : Nat → Nat} {rw : Nat → Option Nat} (hrw : ∀ i, i < 6 → rw i = some (a (12 + 2 * i))) (S : KS)  (post : KS → Prop) (h : w_X8_listCodes cy tE S  post) : Ct l D cy T0 tB tE yX8_listCodes cX8_listCodes 4 none 2 48 0 0 (kw cy a rw S) [.ref (a 38)] (QV D (U := KS) post (kw cy a rw)) := by
  refine Ct.ofZ RX8 "listCodes" [(0, .ref (a 38))] rfl rfl rfl rfl (Nat.le_of_ble_eq_true rfl) ?_
  intro p e R s m args below meth c A b
  unfold w_X8_listCodes at h
  refine z_aload_n b dX8_listCodes_0 rfl rfl ?_
  refine z_iconst (v := 0) b dX8_listCodes_1 (by decide) ?_
  refine z_put (q0 := 38) (k9 := 10) tyX8 b (kw_38 cy a rw S) rfl in_X8 tyX8_ok nmX8 (by decide) wf_X8_41 rfl rfl rfl rfl (Nat.le_of_ble_eq_true rfl) dX8_listCodes_2 (kwp_38_10 cy a rw S 0) ?_
  refine z_iconst (v := 0) b dX8_listCodes_5 (by decide) ?_
  refine z_istore_n (lv' := [(1, .int 0), (0, .ref (a 38))]) b dX8_listCodes_6 rfl (by decide) rfl ?_
  refine z_lv0 (lv' := [(0, .ref (a 38)), (1, .int 0)]) [1, 0] rfl ?_
  obtain ⟨n, h⟩ := h
  exact zl_X8_listCodes_L7 hrw b (fun S h => z_X8_listCodes_B117 hrw b _ h) n _ _ h

def w_J7_fill_53178_F5 (cy : Nat → ClassId) (tE : Nat) (post : KS → Prop) (k20 : KS → Prop) (k5 : KS → Int32 → Int32 → Int32 → Prop) (S : KS) (x1 : Int32) (x2 : Int32) (x3 : Int32) : Prop :=
  ((x3.toInt ≤ x2.toInt → k20 S) ∧ (x2.toInt < x3.toInt → (0 ≤ x2.toInt ∧ x2.toInt < 1024) ∧ k5 (ksu S 20 (x2.toNatClampNeg) x1) x1 (x2 + 1) x3))

set_option maxHeartbeats 200000 in
set_option maxRecDepth 100000 in
theorem z_J7_fill_53178_F5 {p : Program} {l : Launch} {e : Env} {R : Room} {s : State} {m : MethodId} {args : Array Value} {below : List Frame} {meth : Method} {c : Code} {D : va_G} {cy : Nat → ClassId} {T0 tB tE : Nat} {A : Nat → Prop} {a : Nat → Nat} {rw : Nat → Option Nat} (hrw : ∀ i, i < 6 → rw i = some (a (12 + 2 * i))) {post : KS → Prop} {k20 : KS → Prop} {k5 : KS → Int32 → Int32 → Int32 → Prop} (b : Bz p R s m args meth c D cy T0 tB tE A 4 cJ7_fill_53178 RJ7 none "fill" 0 0 0 0) (hk20 : ∀ (S : KS), k20 S → Z p l e R s m args below meth c D A 4 (MQ below (QV D (U := KS) post (kw cy a rw) A) args s 0 0 A) 0 0 (kw cy a rw S) [] 20 []) (hk5 : ∀ (S : KS) (x1 : Int32) (x2 : Int32) (x3 : Int32), k5 S x1 x2 x3 → Z p l e R s m args below meth c D A 4 (MQ below (QV D (U := KS) post (kw cy a rw) A) args s 0 0 A) 0 0 (kw cy a rw S) [(0, .ref (a 43)), (1, .int x1), (2, .int x2), (3, .int x3)] 5 []) (S : KS) (x1 : Int32) (x2 : Int32) (x3 : Int32) (h : w_J7_fill_53178_F5 cy tE post k20 k5 S x1 x2 x3) : Z p l e R s m args below meth c D A 4 (MQ below (QV D (U := KS) post (kw cy a rw) A) args s 0 0 A) 0 0 (kw cy a rw S) [(0, .ref (a 43)), (1, .int x1), (2, .int x2), (3, .int x3)] 5 [] := by
  unfold w_J7_fill_53178_F5 at h
  refine z_iload_n b dJ7_fill_53178_5 rfl rfl ?_
  refine z_iload_n b dJ7_fill_53178_6 rfl rfl ?_
  refine y_icmp_ge (tgt := 20) (xl := x2.toInt) (yl := x3.toInt) b rfl rfl dJ7_fill_53178_7 (by decide) (fun c1 => ?_) (fun c1 => ?_)
  · replace h := h.1 c1
    refine z_lv0 (lv' := []) [] rfl ?_
    exact hk20 _ h
  · replace h := h.2 c1
    refine z_aload_n b dJ7_fill_53178_10 rfl rfl ?_
    refine z_iload_n b dJ7_fill_53178_11 rfl rfl ?_
    refine z_iload_n b dJ7_fill_53178_12 rfl rfl ?_
    obtain ⟨g1, h⟩ := h
    refine y_iast (q0 := 43) (j := x2.toNatClampNeg) b (kw_43 cy a rw S) (zx_r g1.1 g1.2) dJ7_fill_53178_13 (kwa_43 cy a rw S (x2.toNatClampNeg) x1) ?_
    refine z_iinc (k9 := 2) (v := (x2 + 1)) (lv' := [(2, .int (x2 + 1)), (0, .ref (a 43)), (1, .int x1), (3, .int x3)]) b dJ7_fill_53178_14 rfl rfl (by decide) rfl ?_
    refine z_goto (tgt := 5) b dJ7_fill_53178_17 (by decide) ?_
    refine z_lv0 (lv' := [(0, .ref (a 43)), (1, .int x1), (2, .int (x2 + 1)), (3, .int x3)]) [1, 2, 0, 3] rfl ?_
    exact hk5 _ _ _ _ h

set_option maxHeartbeats 200000 in
set_option maxRecDepth 100000 in
theorem zl_J7_fill_53178_L5 {p : Program} {l : Launch} {e : Env} {R : Room} {s : State} {m : MethodId} {args : Array Value} {below : List Frame} {meth : Method} {c : Code} {D : va_G} {cy : Nat → ClassId} {T0 tB tE : Nat} {A : Nat → Prop} {a : Nat → Nat} {rw : Nat → Option Nat} (hrw : ∀ i, i < 6 → rw i = some (a (12 + 2 * i))) {post : KS → Prop} {k20 : KS → Prop} (b : Bz p R s m args meth c D cy T0 tB tE A 4 cJ7_fill_53178 RJ7 none "fill" 0 0 0 0) (hk20 : ∀ (S : KS), k20 S → Z p l e R s m args below meth c D A 4 (MQ below (QV D (U := KS) post (kw cy a rw) A) args s 0 0 A) 0 0 (kw cy a rw S) [] 20 []) : ∀ (n : Nat) (S : KS) (x1 : Int32) (x2 : Int32) (x3 : Int32), lpn (w_J7_fill_53178_F5 cy tE post k20) (fun _ _ _ _ => False) n S x1 x2 x3 → Z p l e R s m args below meth c D A 4 (MQ below (QV D (U := KS) post (kw cy a rw) A) args s 0 0 A) 0 0 (kw cy a rw S) [(0, .ref (a 43)), (1, .int x1), (2, .int x2), (3, .int x3)] 5 [] := by
  intro n
  induction n with
  | zero => intro _ _ _ _ h; exact h.elim
  | succ n ih => intro S x1 x2 x3 h; exact z_J7_fill_53178_F5 hrw b hk20 ih S x1 x2 x3 h

def w_J7_fill_53178_B20 (cy : Nat → ClassId) (tE : Nat) (post : KS → Prop) (S : KS)  : Prop :=
  post S

set_option maxHeartbeats 200000 in
set_option maxRecDepth 100000 in
theorem z_J7_fill_53178_B20 {p : Program} {l : Launch} {e : Env} {R : Room} {s : State} {m : MethodId} {args : Array Value} {below : List Frame} {meth : Method} {c : Code} {D : va_G} {cy : Nat → ClassId} {T0 tB tE : Nat} {A : Nat → Prop} {a : Nat → Nat} {rw : Nat → Option Nat} (hrw : ∀ i, i < 6 → rw i = some (a (12 + 2 * i))) {post : KS → Prop} (b : Bz p R s m args meth c D cy T0 tB tE A 4 cJ7_fill_53178 RJ7 none "fill" 0 0 0 0) (S : KS)  (h : w_J7_fill_53178_B20 cy tE post S ) : Z p l e R s m args below meth c D A 4 (MQ below (QV D (U := KS) post (kw cy a rw) A) args s 0 0 A) 0 0 (kw cy a rw S) [] 20 [] := by
  unfold w_J7_fill_53178_B20 at h
  exact z_vret (u := S) b rfl dJ7_fill_53178_20 h rfl (by decide) (by decide)

def w_J7_fill_53178 (cy : Nat → ClassId) (tE : Nat) (S : KS) (p1 : Int32) (post : KS → Prop) : Prop :=
  ∃ n, lpn (w_J7_fill_53178_F5 cy tE post (w_J7_fill_53178_B20 cy tE post)) (fun _ _ _ _ => False) n S p1 0 1024

set_option maxHeartbeats 200000 in
set_option maxRecDepth 100000 in
theorem k_J7_fill_53178 {l : Launch} {D : va_G} {cy : Nat → ClassId} {T0 tB tE : Nat} {a : Nat → Nat} {rw : Nat → Option Nat} (hrw : ∀ i, i < 6 → rw i = some (a (12 + 2 * i))) (S : KS) (p1 : Int32) (post : KS → Prop) (h : w_J7_fill_53178 cy tE S p1 post) : Ct l D cy T0 tB tE yJ7_fill_53178 cJ7_fill_53178 4 none 0 0 0 0 (kw cy a rw S) [.ref (a 43), .int p1] (QV D (U := KS) post (kw cy a rw)) := by
  refine Ct.ofZ RJ7 "fill" [(0, .ref (a 43)), (1, .int p1)] rfl rfl rfl rfl (Nat.le_of_ble_eq_true rfl) ?_
  intro p e R s m args below meth c A b
  unfold w_J7_fill_53178 at h
  refine z_iconst (v := 0) b dJ7_fill_53178_0 (by decide) ?_
  refine z_istore_n (lv' := [(2, .int 0), (0, .ref (a 43)), (1, .int p1)]) b dJ7_fill_53178_1 rfl (by decide) rfl ?_
  refine z_aload_n b dJ7_fill_53178_2 rfl rfl ?_
  refine z_alen (q0 := 43) (t0 := 0) (v := 1024) b (kw_43 cy a rw S) rfl rfl dJ7_fill_53178_3 ?_
  refine z_istore_n (lv' := [(3, .int 1024), (2, .int 0), (0, .ref (a 43)), (1, .int p1)]) b dJ7_fill_53178_4 rfl (by decide) rfl ?_
  refine z_lv0 (lv' := [(0, .ref (a 43)), (1, .int p1), (2, .int 0), (3, .int 1024)]) [2, 3, 1, 0] rfl ?_
  obtain ⟨n, h⟩ := h
  exact zl_J7_fill_53178_L5 hrw b (fun S h => z_J7_fill_53178_B20 hrw b _ h) n _ _ _ _ h

def w_X8_begin_B53 (cy : Nat → ClassId) (tE : Nat) (post : KS → Prop) (S : KS) (x1 : Int32) (x2 : Int32) (x3 : Int32) (x4 : Int32) : Prop :=
  w_X8_listCodes cy tE (ksi (ksi (ksi (ksi (ksi S 32 1) 27 x1) 28 x2) 29 x3) 30 x4) (fun S2 => w_J7_fill_53178 cy tE S2 0 (fun S4 => w_X9_packed cy tE (ksi (ksi (ksi S4 33 0) 31 0) 34 0) 0 0 0 (fun r5 S6 => w_X8_meet cy tE S6 r5 (-1) (-1) (fun S8 => post S8))))

set_option maxHeartbeats 200000 in
set_option maxRecDepth 100000 in
theorem z_X8_begin_B53 {p : Program} {l : Launch} {e : Env} {R : Room} {s : State} {m : MethodId} {args : Array Value} {below : List Frame} {meth : Method} {c : Code} {D : va_G} {cy : Nat → ClassId} {T0 tB tE : Nat} {A : Nat → Prop} {a : Nat → Nat} {rw : Nat → Option Nat} (hrw : ∀ i, i < 6 → rw i = some (a (12 + 2 * i))) {post : KS → Prop} (b : Bz p R s m args meth c D cy T0 tB tE A 6 cX8_begin RX8 none "begin" 3 71 0 0) (S : KS) (x1 : Int32) (x2 : Int32) (x3 : Int32) (x4 : Int32) (h : w_X8_begin_B53 cy tE post S x1 x2 x3 x4) : Z p l e R s m args below meth c D A 6 (MQ below (QV D (U := KS) post (kw cy a rw) A) args s 0 0 A) 0 0 (kw cy a rw S) [(0, .ref (a 38)), (1, .int x1), (2, .int x2), (3, .int x3), (4, .int x4)] 53 [] := by
  unfold w_X8_begin_B53 at h
  refine z_aload_n b dX8_begin_53 rfl rfl ?_
  refine z_iconst (v := 1) b dX8_begin_54 (by decide) ?_
  refine z_put (q0 := 38) (k9 := 16) tyX8 b (kw_38 cy a rw S) rfl in_X8 tyX8_ok nmX8 (by decide) wf_X8_60 rfl rfl rfl rfl (Nat.le_of_ble_eq_true rfl) dX8_begin_55 (kwp_38_16 cy a rw S 1) ?_
  refine z_aload_n b dX8_begin_58 rfl rfl ?_
  refine z_iload_n b dX8_begin_59 rfl rfl ?_
  refine z_put (q0 := 38) (k9 := 11) tyX8 b (kw_38 cy a rw (ksi S 32 1)) rfl in_X8 tyX8_ok nmX8 (by decide) wf_X8_45 rfl rfl rfl rfl (Nat.le_of_ble_eq_true rfl) dX8_begin_60 (kwp_38_11 cy a rw (ksi S 32 1) x1) ?_
  refine z_aload_n b dX8_begin_63 rfl rfl ?_
  refine z_iload_n b dX8_begin_64 rfl rfl ?_
  refine z_put (q0 := 38) (k9 := 12) tyX8 b (kw_38 cy a rw (ksi (ksi S 32 1) 27 x1)) rfl in_X8 tyX8_ok nmX8 (by decide) wf_X8_48 rfl rfl rfl rfl (Nat.le_of_ble_eq_true rfl) dX8_begin_65 (kwp_38_12 cy a rw (ksi (ksi S 32 1) 27 x1) x2) ?_
  refine z_aload_n b dX8_begin_68 rfl rfl ?_
  refine z_iload_n b dX8_begin_69 rfl rfl ?_
  refine z_put (q0 := 38) (k9 := 13) tyX8 b (kw_38 cy a rw (ksi (ksi (ksi S 32 1) 27 x1) 28 x2)) rfl in_X8 tyX8_ok nmX8 (by decide) wf_X8_51 rfl rfl rfl rfl (Nat.le_of_ble_eq_true rfl) dX8_begin_70 (kwp_38_13 cy a rw (ksi (ksi (ksi S 32 1) 27 x1) 28 x2) x3) ?_
  refine z_aload_n b dX8_begin_73 rfl rfl ?_
  refine z_iload b dX8_begin_74 rfl ?_
  refine z_put (q0 := 38) (k9 := 14) tyX8 b (kw_38 cy a rw (ksi (ksi (ksi (ksi S 32 1) 27 x1) 28 x2) 29 x3)) rfl in_X8 tyX8_ok nmX8 (by decide) wf_X8_54 rfl rfl rfl rfl (Nat.le_of_ble_eq_true rfl) dX8_begin_76 (kwp_38_14 cy a rw (ksi (ksi (ksi (ksi S 32 1) 27 x1) 28 x2) 29 x3) x4) ?_
  refine z_aload_n b dX8_begin_79 rfl rfl ?_
  refine z_callv b (z_runV (q0 := 38) (As := []) (st := []) b (k_X8_listCodes hrw (ksi (ksi (ksi (ksi (ksi S 32 1) 27 x1) 28 x2) 29 x3) 30 x4) _ h) cf_X8_listCodes (kw_38 cy a rw (ksi (ksi (ksi (ksi (ksi S 32 1) 27 x1) 28 x2) 29 x3) 30 x4)) rfl wm_X8_77 wi_X8_listCodes ws_X8_listCodes dX8_begin_80 rfl (Nat.le_of_ble_eq_true rfl) ⟨by decide, by decide, Nat.le_of_ble_eq_true rfl, Nat.le_of_ble_eq_true rfl⟩) (fun S2 h => ?_)
  refine z_aload_n b dX8_begin_83 rfl rfl ?_
  refine z_get (q0 := 38) (k9 := 7) (v := .ref (a 43)) b (kw_38 cy a rw S2) rfl in_X8 (by decide) wf_X8_32 rfl dX8_begin_84 ?_
  refine z_iconst (v := 0) b dX8_begin_87 (by decide) ?_
  refine z_callv b (z_runS (As := [.ref (a 43), .int 0]) (st := []) b (k_J7_fill_53178 hrw S2 0 _ h) cf_J7_fill_53178 wm_X8_80 ws_J7_fill_53178 dX8_begin_88 rfl (Nat.le_of_ble_eq_true rfl) ⟨by decide, by decide, Nat.le_of_ble_eq_true rfl, Nat.le_of_ble_eq_true rfl⟩) (fun S4 h => ?_)
  refine z_aload_n b dX8_begin_91 rfl rfl ?_
  refine z_iconst (v := 0) b dX8_begin_92 (by decide) ?_
  refine z_put (q0 := 38) (k9 := 17) tyX8 b (kw_38 cy a rw S4) rfl in_X8 tyX8_ok nmX8 (by decide) wf_X8_64 rfl rfl rfl rfl (Nat.le_of_ble_eq_true rfl) dX8_begin_93 (kwp_38_17 cy a rw S4 0) ?_
  refine z_aload_n b dX8_begin_96 rfl rfl ?_
  refine z_iconst (v := 0) b dX8_begin_97 (by decide) ?_
  refine z_put (q0 := 38) (k9 := 15) tyX8 b (kw_38 cy a rw (ksi S4 33 0)) rfl in_X8 tyX8_ok nmX8 (by decide) wf_X8_57 rfl rfl rfl rfl (Nat.le_of_ble_eq_true rfl) dX8_begin_98 (kwp_38_15 cy a rw (ksi S4 33 0) 0) ?_
  refine z_aload_n b dX8_begin_101 rfl rfl ?_
  refine z_iconst (v := 0) b dX8_begin_102 (by decide) ?_
  refine z_put (q0 := 38) (k9 := 18) tyX8 b (kw_38 cy a rw (ksi (ksi S4 33 0) 31 0)) rfl in_X8 tyX8_ok nmX8 (by decide) wf_X8_67 rfl rfl rfl rfl (Nat.le_of_ble_eq_true rfl) dX8_begin_103 (kwp_38_18 cy a rw (ksi (ksi S4 33 0) 31 0) 0) ?_
  refine z_aload_n b dX8_begin_106 rfl rfl ?_
  refine z_aload_n b dX8_begin_107 rfl rfl ?_
  refine z_get (q0 := 38) (k9 := 1) (v := .ref (a 2)) b (kw_38 cy a rw (ksi (ksi (ksi S4 33 0) 31 0) 34 0)) rfl in_X8 (by decide) wf_X8_74 rfl dX8_begin_108 ?_
  refine z_iconst (v := 0) b dX8_begin_111 (by decide) ?_
  refine z_iconst (v := 0) b dX8_begin_112 (by decide) ?_
  refine z_calll b (z_runV (q0 := 2) (As := [.int 0, .int 0]) (st := [.ref (a 38)]) b (k_X9_packed hrw (ksi (ksi (ksi S4 33 0) 31 0) 34 0) 0 0 0 _ h) cf_X9_packed (kw_2 cy a rw (ksi (ksi (ksi S4 33 0) 31 0) 34 0)) rfl wm_X8_86 wi_X9_packed ws_X9_packed dX8_begin_113 rfl (Nat.le_of_ble_eq_true rfl) ⟨by decide, by decide, Nat.le_of_ble_eq_true rfl, Nat.le_of_ble_eq_true rfl⟩) (fun r5 S6 h => ?_)
  refine z_iconst (v := (-1)) b dX8_begin_116 (by decide) ?_
  refine z_iconst (v := (-1)) b dX8_begin_117 (by decide) ?_
  refine z_callv b (z_runV (q0 := 38) (As := [.long r5, .int (-1), .int (-1)]) (st := []) b (k_X8_meet hrw S6 r5 (-1) (-1) _ h) cf_X8_meet (kw_38 cy a rw S6) rfl wm_X8_90 wi_X8_meet ws_X8_meet dX8_begin_118 rfl (Nat.le_of_ble_eq_true rfl) ⟨by decide, by decide, Nat.le_of_ble_eq_true rfl, Nat.le_of_ble_eq_true rfl⟩) (fun S8 h => ?_)
  exact z_vret (u := S8) b rfl dX8_begin_121 h rfl (by decide) (by decide)

def w_X8_begin_B38 (cy : Nat → ClassId) (tE : Nat) (post : KS → Prop) (S : KS) (x1 : Int32) (x2 : Int32) (x3 : Int32) (x4 : Int32) (y0 : Int32) : Prop :=
  (((fi S.1 32).toInt = 0 → w_X8_begin_B53 cy tE post S x1 x2 x3 x4) ∧ ((fi S.1 32).toInt ≠ 0 → ((y0.toInt = 0 → w_X8_begin_B53 cy tE post S x1 x2 x3 x4) ∧ (y0.toInt ≠ 0 → post S))))

set_option maxHeartbeats 200000 in
set_option maxRecDepth 100000 in
theorem z_X8_begin_B38 {p : Program} {l : Launch} {e : Env} {R : Room} {s : State} {m : MethodId} {args : Array Value} {below : List Frame} {meth : Method} {c : Code} {D : va_G} {cy : Nat → ClassId} {T0 tB tE : Nat} {A : Nat → Prop} {a : Nat → Nat} {rw : Nat → Option Nat} (hrw : ∀ i, i < 6 → rw i = some (a (12 + 2 * i))) {post : KS → Prop} (b : Bz p R s m args meth c D cy T0 tB tE A 6 cX8_begin RX8 none "begin" 3 71 0 0) (S : KS) (x1 : Int32) (x2 : Int32) (x3 : Int32) (x4 : Int32) (y0 : Int32) (h : w_X8_begin_B38 cy tE post S x1 x2 x3 x4 y0) : Z p l e R s m args below meth c D A 6 (MQ below (QV D (U := KS) post (kw cy a rw) A) args s 0 0 A) 0 0 (kw cy a rw S) [(0, .ref (a 38)), (1, .int x1), (2, .int x2), (3, .int x3), (4, .int x4)] 38 [.int y0] := by
  unfold w_X8_begin_B38 at h
  refine z_istore (lv' := [(5, .int y0), (0, .ref (a 38)), (1, .int x1), (2, .int x2), (3, .int x3), (4, .int x4)]) b dX8_begin_38 (by decide) rfl ?_
  refine z_aload_n b dX8_begin_40 rfl rfl ?_
  refine z_get (q0 := 38) (k9 := 16) (v := .int (fi S.1 32)) b (kw_38 cy a rw S) rfl in_X8 (by decide) wf_X8_60 rfl dX8_begin_41 ?_
  refine y_if_eq (tgt := 53) (xl := (fi S.1 32).toInt) b rfl dX8_begin_44 (by decide) (fun c1 => ?_) (fun c1 => ?_)
  · replace h := h.1 c1
    refine z_lv0 (lv' := [(0, .ref (a 38)), (1, .int x1), (2, .int x2), (3, .int x3), (4, .int x4)]) [1, 2, 3, 4, 5] rfl ?_
    exact z_X8_begin_B53 hrw b _ _ _ _ _ h
  · replace h := h.2 c1
    refine z_iload b dX8_begin_47 rfl ?_
    refine y_if_eq (tgt := 53) (xl := y0.toInt) b rfl dX8_begin_49 (by decide) (fun c1 => ?_) (fun c1 => ?_)
    · replace h := h.1 c1
      refine z_lv0 (lv' := [(0, .ref (a 38)), (1, .int x1), (2, .int x2), (3, .int x3), (4, .int x4)]) [1, 2, 3, 4, 5] rfl ?_
      exact z_X8_begin_B53 hrw b _ _ _ _ _ h
    · replace h := h.2 c1
      exact z_vret (u := S) b rfl dX8_begin_52 h rfl (by decide) (by decide)

def w_X8_begin_B37 (cy : Nat → ClassId) (tE : Nat) (post : KS → Prop) (S : KS) (x1 : Int32) (x2 : Int32) (x3 : Int32) (x4 : Int32) : Prop :=
  w_X8_begin_B38 cy tE post S x1 x2 x3 x4 0

set_option maxHeartbeats 200000 in
set_option maxRecDepth 100000 in
theorem z_X8_begin_B37 {p : Program} {l : Launch} {e : Env} {R : Room} {s : State} {m : MethodId} {args : Array Value} {below : List Frame} {meth : Method} {c : Code} {D : va_G} {cy : Nat → ClassId} {T0 tB tE : Nat} {A : Nat → Prop} {a : Nat → Nat} {rw : Nat → Option Nat} (hrw : ∀ i, i < 6 → rw i = some (a (12 + 2 * i))) {post : KS → Prop} (b : Bz p R s m args meth c D cy T0 tB tE A 6 cX8_begin RX8 none "begin" 3 71 0 0) (S : KS) (x1 : Int32) (x2 : Int32) (x3 : Int32) (x4 : Int32) (h : w_X8_begin_B37 cy tE post S x1 x2 x3 x4) : Z p l e R s m args below meth c D A 6 (MQ below (QV D (U := KS) post (kw cy a rw) A) args s 0 0 A) 0 0 (kw cy a rw S) [(0, .ref (a 38)), (1, .int x1), (2, .int x2), (3, .int x3), (4, .int x4)] 37 [] := by
  unfold w_X8_begin_B37 at h
  refine z_iconst (v := 0) b dX8_begin_37 (by decide) ?_
  exact z_X8_begin_B38 hrw b _ _ _ _ _ _ h

def w_X8_begin (cy : Nat → ClassId) (tE : Nat) (S : KS) (p0 : Int32) (p1 : Int32) (p2 : Int32) (p3 : Int32) (post : KS → Prop) : Prop :=
  ((p0.toInt ≠ (fi S.1 27).toInt → w_X8_begin_B37 cy tE post S p0 p1 p2 p3) ∧ (p0.toInt = (fi S.1 27).toInt → ((p1.toInt ≠ (fi S.1 28).toInt → w_X8_begin_B37 cy tE post S p0 p1 p2 p3) ∧ (p1.toInt = (fi S.1 28).toInt → ((p2.toInt ≠ (fi S.1 29).toInt → w_X8_begin_B37 cy tE post S p0 p1 p2 p3) ∧ (p2.toInt = (fi S.1 29).toInt → ((p3.toInt ≠ (fi S.1 30).toInt → w_X8_begin_B37 cy tE post S p0 p1 p2 p3) ∧ (p3.toInt = (fi S.1 30).toInt → w_X8_begin_B38 cy tE post S p0 p1 p2 p3 1))))))))

set_option maxHeartbeats 200000 in
set_option maxRecDepth 100000 in
theorem k_X8_begin {l : Launch} {D : va_G} {cy : Nat → ClassId} {T0 tB tE : Nat} {a : Nat → Nat} {rw : Nat → Option Nat} (hrw : ∀ i, i < 6 → rw i = some (a (12 + 2 * i))) (S : KS) (p0 : Int32) (p1 : Int32) (p2 : Int32) (p3 : Int32) (post : KS → Prop) (h : w_X8_begin cy tE S p0 p1 p2 p3 post) : Ct l D cy T0 tB tE yX8_begin cX8_begin 6 none 3 71 0 0 (kw cy a rw S) [.ref (a 38), .int p0, .int p1, .int p2, .int p3] (QV D (U := KS) post (kw cy a rw)) := by
  refine Ct.ofZ RX8 "begin" [(0, .ref (a 38)), (1, .int p0), (2, .int p1), (3, .int p2), (4, .int p3)] rfl rfl rfl rfl (Nat.le_of_ble_eq_true rfl) ?_
  intro p e R s m args below meth c A b
  unfold w_X8_begin at h
  refine z_iload_n b dX8_begin_0 rfl rfl ?_
  refine z_aload_n b dX8_begin_1 rfl rfl ?_
  refine z_get (q0 := 38) (k9 := 11) (v := .int (fi S.1 27)) b (kw_38 cy a rw S) rfl in_X8 (by decide) wf_X8_45 rfl dX8_begin_2 ?_
  refine y_icmp_ne (tgt := 37) (xl := p0.toInt) (yl := (fi S.1 27).toInt) b rfl rfl dX8_begin_5 (by decide) (fun c1 => ?_) (fun c1 => ?_)
  · replace h := h.1 c1
    exact z_X8_begin_B37 hrw b _ _ _ _ _ h
  · replace h := h.2 c1
    refine z_iload_n b dX8_begin_8 rfl rfl ?_
    refine z_aload_n b dX8_begin_9 rfl rfl ?_
    refine z_get (q0 := 38) (k9 := 12) (v := .int (fi S.1 28)) b (kw_38 cy a rw S) rfl in_X8 (by decide) wf_X8_48 rfl dX8_begin_10 ?_
    refine y_icmp_ne (tgt := 37) (xl := p1.toInt) (yl := (fi S.1 28).toInt) b rfl rfl dX8_begin_13 (by decide) (fun c1 => ?_) (fun c1 => ?_)
    · replace h := h.1 c1
      exact z_X8_begin_B37 hrw b _ _ _ _ _ h
    · replace h := h.2 c1
      refine z_iload_n b dX8_begin_16 rfl rfl ?_
      refine z_aload_n b dX8_begin_17 rfl rfl ?_
      refine z_get (q0 := 38) (k9 := 13) (v := .int (fi S.1 29)) b (kw_38 cy a rw S) rfl in_X8 (by decide) wf_X8_51 rfl dX8_begin_18 ?_
      refine y_icmp_ne (tgt := 37) (xl := p2.toInt) (yl := (fi S.1 29).toInt) b rfl rfl dX8_begin_21 (by decide) (fun c1 => ?_) (fun c1 => ?_)
      · replace h := h.1 c1
        exact z_X8_begin_B37 hrw b _ _ _ _ _ h
      · replace h := h.2 c1
        refine z_iload b dX8_begin_24 rfl ?_
        refine z_aload_n b dX8_begin_26 rfl rfl ?_
        refine z_get (q0 := 38) (k9 := 14) (v := .int (fi S.1 30)) b (kw_38 cy a rw S) rfl in_X8 (by decide) wf_X8_54 rfl dX8_begin_27 ?_
        refine y_icmp_ne (tgt := 37) (xl := p3.toInt) (yl := (fi S.1 30).toInt) b rfl rfl dX8_begin_30 (by decide) (fun c1 => ?_) (fun c1 => ?_)
        · replace h := h.1 c1
          exact z_X8_begin_B37 hrw b _ _ _ _ _ h
        · replace h := h.2 c1
          refine z_iconst (v := 1) b dX8_begin_33 (by decide) ?_
          refine z_goto (tgt := 38) b dX8_begin_34 (by decide) ?_
          exact z_X8_begin_B38 hrw b _ _ _ _ _ _ h

def w_X2_isNever_B64 (cy : Nat → ClassId) (tE : Nat) (post : Int32 → KS → Prop) (k19 : KS → Nat → Nat → Int32 → Int32 → Int32 → Prop) (k70 : KS → Nat → Nat → Int32 → Int32 → Prop) (S : KS) (x1 : Nat) (x2 : Nat) (x3 : Int32) (x4 : Int32) (x5 : Int32) : Prop :=
  k19 S x1 x2 x3 x4 (x5 + 1)

set_option maxHeartbeats 200000 in
set_option maxRecDepth 100000 in
theorem z_X2_isNever_B64 {p : Program} {l : Launch} {e : Env} {R : Room} {s : State} {m : MethodId} {args : Array Value} {below : List Frame} {meth : Method} {c : Code} {D : va_G} {cy : Nat → ClassId} {T0 tB tE : Nat} {A : Nat → Prop} {a : Nat → Nat} {rw : Nat → Option Nat} (hrw : ∀ i, i < 6 → rw i = some (a (12 + 2 * i))) {post : Int32 → KS → Prop} {k19 : KS → Nat → Nat → Int32 → Int32 → Int32 → Prop} {k70 : KS → Nat → Nat → Int32 → Int32 → Prop} (b : Bz p R s m args meth c D cy T0 tB tE A 6 cX2_isNever RX2 (some .boolean) "isNever" 3 72 0 0) (hk19 : ∀ (S : KS) (x1 : Nat) (x2 : Nat) (x3 : Int32) (x4 : Int32) (x5 : Int32), k19 S x1 x2 x3 x4 x5 → Z p l e R s m args below meth c D A 6 (MQ below (QI D (U := KS) post (kw cy a rw) A) args s 0 0 A) 0 0 (kw cy a rw S) [(0, .ref (a 35)), (1, .ref (a (2 + 2 * x1))), (2, .ref x2), (3, .int x3), (4, .int x4), (5, .int x5)] 19 []) (hk70 : ∀ (S : KS) (x1 : Nat) (x2 : Nat) (x3 : Int32) (x4 : Int32), k70 S x1 x2 x3 x4 → Z p l e R s m args below meth c D A 6 (MQ below (QI D (U := KS) post (kw cy a rw) A) args s 0 0 A) 0 0 (kw cy a rw S) [(0, .ref (a 35)), (1, .ref (a (2 + 2 * x1))), (2, .ref x2), (3, .int x3), (4, .int x4)] 70 []) (S : KS) (x1 : Nat) (x2 : Nat) (x3 : Int32) (x4 : Int32) (x5 : Int32) (h : w_X2_isNever_B64 cy tE post k19 k70 S x1 x2 x3 x4 x5) : Z p l e R s m args below meth c D A 6 (MQ below (QI D (U := KS) post (kw cy a rw) A) args s 0 0 A) 0 0 (kw cy a rw S) [(0, .ref (a 35)), (1, .ref (a (2 + 2 * x1))), (2, .ref x2), (3, .int x3), (4, .int x4), (5, .int x5)] 64 [] := by
  unfold w_X2_isNever_B64 at h
  refine z_iinc (k9 := 5) (v := (x5 + 1)) (lv' := [(5, .int (x5 + 1)), (0, .ref (a 35)), (1, .ref (a (2 + 2 * x1))), (2, .ref x2), (3, .int x3), (4, .int x4)]) b dX2_isNever_64 rfl rfl (by decide) rfl ?_
  refine z_goto (tgt := 19) b dX2_isNever_67 (by decide) ?_
  refine z_lv0 (lv' := [(0, .ref (a 35)), (1, .ref (a (2 + 2 * x1))), (2, .ref x2), (3, .int x3), (4, .int x4), (5, .int (x5 + 1))]) [1, 2, 3, 4, 5, 0] rfl ?_
  exact hk19 _ _ _ _ _ _ h

def w_X2_isNever_F19 (cy : Nat → ClassId) (tE : Nat) (post : Int32 → KS → Prop) (k70 : KS → Nat → Nat → Int32 → Int32 → Prop) (k19 : KS → Nat → Nat → Int32 → Int32 → Int32 → Prop) (S : KS) (x1 : Nat) (x2 : Nat) (x3 : Int32) (x4 : Int32) (x5 : Int32) : Prop :=
  ((3 ≤ x5.toInt → k70 S x1 x2 x3 x4) ∧ (x5.toInt < 3 → w_X6_look cy tE S x1 ((((16 : Int32) * x3) + ((4 : Int32) * x4)) + x5) (fun S2 => ((x3.toInt = x4.toInt → w_X2_isNever_B64 cy tE post k19 k70 S2 x1 x2 x3 x4 x5) ∧ (x3.toInt ≠ x4.toInt → w_X6_value cy tE S2 x2 (fun r3 S4 => ((r3.toInt = 0 → w_X2_isNever_B64 cy tE post k19 k70 S4 x1 x2 x3 x4 x5) ∧ (r3.toInt ≠ 0 → post 1 S4))))))))

set_option maxHeartbeats 200000 in
set_option maxRecDepth 100000 in
theorem z_X2_isNever_F19 {p : Program} {l : Launch} {e : Env} {R : Room} {s : State} {m : MethodId} {args : Array Value} {below : List Frame} {meth : Method} {c : Code} {D : va_G} {cy : Nat → ClassId} {T0 tB tE : Nat} {A : Nat → Prop} {a : Nat → Nat} {rw : Nat → Option Nat} (hrw : ∀ i, i < 6 → rw i = some (a (12 + 2 * i))) {post : Int32 → KS → Prop} {k70 : KS → Nat → Nat → Int32 → Int32 → Prop} {k19 : KS → Nat → Nat → Int32 → Int32 → Int32 → Prop} (b : Bz p R s m args meth c D cy T0 tB tE A 6 cX2_isNever RX2 (some .boolean) "isNever" 3 72 0 0) (hk70 : ∀ (S : KS) (x1 : Nat) (x2 : Nat) (x3 : Int32) (x4 : Int32), k70 S x1 x2 x3 x4 → Z p l e R s m args below meth c D A 6 (MQ below (QI D (U := KS) post (kw cy a rw) A) args s 0 0 A) 0 0 (kw cy a rw S) [(0, .ref (a 35)), (1, .ref (a (2 + 2 * x1))), (2, .ref x2), (3, .int x3), (4, .int x4)] 70 []) (hk19 : ∀ (S : KS) (x1 : Nat) (x2 : Nat) (x3 : Int32) (x4 : Int32) (x5 : Int32), k19 S x1 x2 x3 x4 x5 → Z p l e R s m args below meth c D A 6 (MQ below (QI D (U := KS) post (kw cy a rw) A) args s 0 0 A) 0 0 (kw cy a rw S) [(0, .ref (a 35)), (1, .ref (a (2 + 2 * x1))), (2, .ref x2), (3, .int x3), (4, .int x4), (5, .int x5)] 19 []) (S : KS) (x1 : Nat) (x2 : Nat) (x3 : Int32) (x4 : Int32) (x5 : Int32) (h : w_X2_isNever_F19 cy tE post k70 k19 S x1 x2 x3 x4 x5) : Z p l e R s m args below meth c D A 6 (MQ below (QI D (U := KS) post (kw cy a rw) A) args s 0 0 A) 0 0 (kw cy a rw S) [(0, .ref (a 35)), (1, .ref (a (2 + 2 * x1))), (2, .ref x2), (3, .int x3), (4, .int x4), (5, .int x5)] 19 [] := by
  unfold w_X2_isNever_F19 at h
  refine z_iload b dX2_isNever_19 rfl ?_
  refine z_iconst (v := 3) b dX2_isNever_21 (by decide) ?_
  refine y_icmp_ge (tgt := 70) (xl := x5.toInt) (yl := 3) b rfl (by decide) dX2_isNever_22 (by decide) (fun c1 => ?_) (fun c1 => ?_)
  · replace h := h.1 c1
    refine z_lv0 (lv' := [(0, .ref (a 35)), (1, .ref (a (2 + 2 * x1))), (2, .ref x2), (3, .int x3), (4, .int x4)]) [0, 1, 2, 3, 4] rfl ?_
    exact hk70 _ _ _ _ _ h
  · replace h := h.2 c1
    refine z_aload_n b dX2_isNever_25 rfl rfl ?_
    refine z_get (q0 := 35) (k9 := 1) (v := .ref (a 36)) b (kw_35 cy a rw S) rfl in_X2 (by decide) wf_X2_12 rfl dX2_isNever_26 ?_
    refine z_aload_n b dX2_isNever_29 rfl rfl ?_
    refine z_bipush (v := 16) b dX2_isNever_30 (by decide) ?_
    refine z_iload_n b dX2_isNever_32 rfl rfl ?_
    refine z_imul b dX2_isNever_33 rfl ?_
    refine z_iconst (v := 4) b dX2_isNever_34 (by decide) ?_
    refine z_iload b dX2_isNever_35 rfl ?_
    refine z_imul b dX2_isNever_37 rfl ?_
    refine z_iadd b dX2_isNever_38 rfl ?_
    refine z_iload b dX2_isNever_39 rfl ?_
    refine z_iadd b dX2_isNever_41 rfl ?_
    refine z_callv b (z_runV (q0 := 36) (As := [.ref (a (2 + 2 * x1)), .int ((((16 : Int32) * x3) + ((4 : Int32) * x4)) + x5)]) (st := []) b (k_X6_look hrw S x1 ((((16 : Int32) * x3) + ((4 : Int32) * x4)) + x5) _ h) cf_X6_look (kw_36 cy a rw S) rfl wm_X2_42 wi_X6_look ws_X6_look dX2_isNever_42 rfl (Nat.le_of_ble_eq_true rfl) ⟨by decide, by decide, Nat.le_of_ble_eq_true rfl, Nat.le_of_ble_eq_true rfl⟩) (fun S2 h => ?_)
    refine z_iload_n b dX2_isNever_45 rfl rfl ?_
    refine z_iload b dX2_isNever_46 rfl ?_
    refine y_icmp_eq (tgt := 64) (xl := x3.toInt) (yl := x4.toInt) b rfl rfl dX2_isNever_48 (by decide) (fun c1 => ?_) (fun c1 => ?_)
    · replace h := h.1 c1
      exact z_X2_isNever_B64 hrw b hk19 hk70 _ _ _ _ _ _ h
    · replace h := h.2 c1
      refine z_aload_n b dX2_isNever_51 rfl rfl ?_
      refine z_get (q0 := 35) (k9 := 1) (v := .ref (a 36)) b (kw_35 cy a rw S2) rfl in_X2 (by decide) wf_X2_12 rfl dX2_isNever_52 ?_
      refine z_aload_n b dX2_isNever_55 rfl rfl ?_
      refine z_calli b (z_runV (q0 := 36) (As := [.ref x2]) (st := []) b (k_X6_value hrw S2 x2 _ h) cf_X6_value (kw_36 cy a rw S2) rfl wm_X2_64 wi_X6_value ws_X6_value dX2_isNever_56 rfl (Nat.le_of_ble_eq_true rfl) ⟨by decide, by decide, Nat.le_of_ble_eq_true rfl, Nat.le_of_ble_eq_true rfl⟩) (fun r3 S4 h => ?_)
      refine y_if_eq (tgt := 64) (xl := r3.toInt) b rfl dX2_isNever_59 (by decide) (fun c1 => ?_) (fun c1 => ?_)
      · replace h := h.1 c1
        exact z_X2_isNever_B64 hrw b hk19 hk70 _ _ _ _ _ _ h
      · replace h := h.2 c1
        refine z_iconst (v := 1) b dX2_isNever_62 (by decide) ?_
        exact z_zret (u := S4) b rfl (by decide) dX2_isNever_63 h rfl (by decide) (by decide)

set_option maxHeartbeats 200000 in
set_option maxRecDepth 100000 in
theorem zl_X2_isNever_L19 {p : Program} {l : Launch} {e : Env} {R : Room} {s : State} {m : MethodId} {args : Array Value} {below : List Frame} {meth : Method} {c : Code} {D : va_G} {cy : Nat → ClassId} {T0 tB tE : Nat} {A : Nat → Prop} {a : Nat → Nat} {rw : Nat → Option Nat} (hrw : ∀ i, i < 6 → rw i = some (a (12 + 2 * i))) {post : Int32 → KS → Prop} {k70 : KS → Nat → Nat → Int32 → Int32 → Prop} (b : Bz p R s m args meth c D cy T0 tB tE A 6 cX2_isNever RX2 (some .boolean) "isNever" 3 72 0 0) (hk70 : ∀ (S : KS) (x1 : Nat) (x2 : Nat) (x3 : Int32) (x4 : Int32), k70 S x1 x2 x3 x4 → Z p l e R s m args below meth c D A 6 (MQ below (QI D (U := KS) post (kw cy a rw) A) args s 0 0 A) 0 0 (kw cy a rw S) [(0, .ref (a 35)), (1, .ref (a (2 + 2 * x1))), (2, .ref x2), (3, .int x3), (4, .int x4)] 70 []) : ∀ (n : Nat) (S : KS) (x1 : Nat) (x2 : Nat) (x3 : Int32) (x4 : Int32) (x5 : Int32), lpn (w_X2_isNever_F19 cy tE post k70) (fun _ _ _ _ _ _ => False) n S x1 x2 x3 x4 x5 → Z p l e R s m args below meth c D A 6 (MQ below (QI D (U := KS) post (kw cy a rw) A) args s 0 0 A) 0 0 (kw cy a rw S) [(0, .ref (a 35)), (1, .ref (a (2 + 2 * x1))), (2, .ref x2), (3, .int x3), (4, .int x4), (5, .int x5)] 19 [] := by
  intro n
  induction n with
  | zero => intro _ _ _ _ _ _ h; exact h.elim
  | succ n ih => intro S x1 x2 x3 x4 x5 h; exact z_X2_isNever_F19 hrw b hk70 ih S x1 x2 x3 x4 x5 h

def w_X2_isNever_B70 (cy : Nat → ClassId) (tE : Nat) (post : Int32 → KS → Prop) (k10 : KS → Nat → Nat → Int32 → Int32 → Prop) (k76 : KS → Nat → Nat → Int32 → Prop) (S : KS) (x1 : Nat) (x2 : Nat) (x3 : Int32) (x4 : Int32) : Prop :=
  k10 S x1 x2 x3 (x4 + 1)

set_option maxHeartbeats 200000 in
set_option maxRecDepth 100000 in
theorem z_X2_isNever_B70 {p : Program} {l : Launch} {e : Env} {R : Room} {s : State} {m : MethodId} {args : Array Value} {below : List Frame} {meth : Method} {c : Code} {D : va_G} {cy : Nat → ClassId} {T0 tB tE : Nat} {A : Nat → Prop} {a : Nat → Nat} {rw : Nat → Option Nat} (hrw : ∀ i, i < 6 → rw i = some (a (12 + 2 * i))) {post : Int32 → KS → Prop} {k10 : KS → Nat → Nat → Int32 → Int32 → Prop} {k76 : KS → Nat → Nat → Int32 → Prop} (b : Bz p R s m args meth c D cy T0 tB tE A 6 cX2_isNever RX2 (some .boolean) "isNever" 3 72 0 0) (hk10 : ∀ (S : KS) (x1 : Nat) (x2 : Nat) (x3 : Int32) (x4 : Int32), k10 S x1 x2 x3 x4 → Z p l e R s m args below meth c D A 6 (MQ below (QI D (U := KS) post (kw cy a rw) A) args s 0 0 A) 0 0 (kw cy a rw S) [(0, .ref (a 35)), (1, .ref (a (2 + 2 * x1))), (2, .ref x2), (3, .int x3), (4, .int x4)] 10 []) (hk76 : ∀ (S : KS) (x1 : Nat) (x2 : Nat) (x3 : Int32), k76 S x1 x2 x3 → Z p l e R s m args below meth c D A 6 (MQ below (QI D (U := KS) post (kw cy a rw) A) args s 0 0 A) 0 0 (kw cy a rw S) [(0, .ref (a 35)), (1, .ref (a (2 + 2 * x1))), (2, .ref x2), (3, .int x3)] 76 []) (S : KS) (x1 : Nat) (x2 : Nat) (x3 : Int32) (x4 : Int32) (h : w_X2_isNever_B70 cy tE post k10 k76 S x1 x2 x3 x4) : Z p l e R s m args below meth c D A 6 (MQ below (QI D (U := KS) post (kw cy a rw) A) args s 0 0 A) 0 0 (kw cy a rw S) [(0, .ref (a 35)), (1, .ref (a (2 + 2 * x1))), (2, .ref x2), (3, .int x3), (4, .int x4)] 70 [] := by
  unfold w_X2_isNever_B70 at h
  refine z_iinc (k9 := 4) (v := (x4 + 1)) (lv' := [(4, .int (x4 + 1)), (0, .ref (a 35)), (1, .ref (a (2 + 2 * x1))), (2, .ref x2), (3, .int x3)]) b dX2_isNever_70 rfl rfl (by decide) rfl ?_
  refine z_goto (tgt := 10) b dX2_isNever_73 (by decide) ?_
  refine z_lv0 (lv' := [(0, .ref (a 35)), (1, .ref (a (2 + 2 * x1))), (2, .ref x2), (3, .int x3), (4, .int (x4 + 1))]) [1, 2, 3, 4, 0] rfl ?_
  exact hk10 _ _ _ _ _ h

def w_X2_isNever_F10 (cy : Nat → ClassId) (tE : Nat) (post : Int32 → KS → Prop) (k76 : KS → Nat → Nat → Int32 → Prop) (k10 : KS → Nat → Nat → Int32 → Int32 → Prop) (S : KS) (x1 : Nat) (x2 : Nat) (x3 : Int32) (x4 : Int32) : Prop :=
  ((3 ≤ x4.toInt → k76 S x1 x2 x3) ∧ (x4.toInt < 3 → ∃ n, lpn (w_X2_isNever_F19 cy tE post (w_X2_isNever_B70 cy tE post k10 k76)) (fun _ _ _ _ _ _ => False) n S x1 x2 x3 x4 0))

set_option maxHeartbeats 200000 in
set_option maxRecDepth 100000 in
theorem z_X2_isNever_F10 {p : Program} {l : Launch} {e : Env} {R : Room} {s : State} {m : MethodId} {args : Array Value} {below : List Frame} {meth : Method} {c : Code} {D : va_G} {cy : Nat → ClassId} {T0 tB tE : Nat} {A : Nat → Prop} {a : Nat → Nat} {rw : Nat → Option Nat} (hrw : ∀ i, i < 6 → rw i = some (a (12 + 2 * i))) {post : Int32 → KS → Prop} {k76 : KS → Nat → Nat → Int32 → Prop} {k10 : KS → Nat → Nat → Int32 → Int32 → Prop} (b : Bz p R s m args meth c D cy T0 tB tE A 6 cX2_isNever RX2 (some .boolean) "isNever" 3 72 0 0) (hk76 : ∀ (S : KS) (x1 : Nat) (x2 : Nat) (x3 : Int32), k76 S x1 x2 x3 → Z p l e R s m args below meth c D A 6 (MQ below (QI D (U := KS) post (kw cy a rw) A) args s 0 0 A) 0 0 (kw cy a rw S) [(0, .ref (a 35)), (1, .ref (a (2 + 2 * x1))), (2, .ref x2), (3, .int x3)] 76 []) (hk10 : ∀ (S : KS) (x1 : Nat) (x2 : Nat) (x3 : Int32) (x4 : Int32), k10 S x1 x2 x3 x4 → Z p l e R s m args below meth c D A 6 (MQ below (QI D (U := KS) post (kw cy a rw) A) args s 0 0 A) 0 0 (kw cy a rw S) [(0, .ref (a 35)), (1, .ref (a (2 + 2 * x1))), (2, .ref x2), (3, .int x3), (4, .int x4)] 10 []) (S : KS) (x1 : Nat) (x2 : Nat) (x3 : Int32) (x4 : Int32) (h : w_X2_isNever_F10 cy tE post k76 k10 S x1 x2 x3 x4) : Z p l e R s m args below meth c D A 6 (MQ below (QI D (U := KS) post (kw cy a rw) A) args s 0 0 A) 0 0 (kw cy a rw S) [(0, .ref (a 35)), (1, .ref (a (2 + 2 * x1))), (2, .ref x2), (3, .int x3), (4, .int x4)] 10 [] := by
  unfold w_X2_isNever_F10 at h
  refine z_iload b dX2_isNever_10 rfl ?_
  refine z_iconst (v := 3) b dX2_isNever_12 (by decide) ?_
  refine y_icmp_ge (tgt := 76) (xl := x4.toInt) (yl := 3) b rfl (by decide) dX2_isNever_13 (by decide) (fun c1 => ?_) (fun c1 => ?_)
  · replace h := h.1 c1
    refine z_lv0 (lv' := [(0, .ref (a 35)), (1, .ref (a (2 + 2 * x1))), (2, .ref x2), (3, .int x3)]) [0, 1, 2, 3] rfl ?_
    exact hk76 _ _ _ _ h
  · replace h := h.2 c1
    refine z_iconst (v := 0) b dX2_isNever_16 (by decide) ?_
    refine z_istore (lv' := [(5, .int 0), (0, .ref (a 35)), (1, .ref (a (2 + 2 * x1))), (2, .ref x2), (3, .int x3), (4, .int x4)]) b dX2_isNever_17 (by decide) rfl ?_
    refine z_lv0 (lv' := [(0, .ref (a 35)), (1, .ref (a (2 + 2 * x1))), (2, .ref x2), (3, .int x3), (4, .int x4), (5, .int 0)]) [1, 2, 3, 4, 5, 0] rfl ?_
    obtain ⟨n, h⟩ := h
    exact zl_X2_isNever_L19 hrw b (fun S x1 x2 x3 x4 h => z_X2_isNever_B70 hrw b hk10 hk76 _ _ _ _ _ h) n _ _ _ _ _ _ h

set_option maxHeartbeats 200000 in
set_option maxRecDepth 100000 in
theorem zl_X2_isNever_L10 {p : Program} {l : Launch} {e : Env} {R : Room} {s : State} {m : MethodId} {args : Array Value} {below : List Frame} {meth : Method} {c : Code} {D : va_G} {cy : Nat → ClassId} {T0 tB tE : Nat} {A : Nat → Prop} {a : Nat → Nat} {rw : Nat → Option Nat} (hrw : ∀ i, i < 6 → rw i = some (a (12 + 2 * i))) {post : Int32 → KS → Prop} {k76 : KS → Nat → Nat → Int32 → Prop} (b : Bz p R s m args meth c D cy T0 tB tE A 6 cX2_isNever RX2 (some .boolean) "isNever" 3 72 0 0) (hk76 : ∀ (S : KS) (x1 : Nat) (x2 : Nat) (x3 : Int32), k76 S x1 x2 x3 → Z p l e R s m args below meth c D A 6 (MQ below (QI D (U := KS) post (kw cy a rw) A) args s 0 0 A) 0 0 (kw cy a rw S) [(0, .ref (a 35)), (1, .ref (a (2 + 2 * x1))), (2, .ref x2), (3, .int x3)] 76 []) : ∀ (n : Nat) (S : KS) (x1 : Nat) (x2 : Nat) (x3 : Int32) (x4 : Int32), lpn (w_X2_isNever_F10 cy tE post k76) (fun _ _ _ _ _ => False) n S x1 x2 x3 x4 → Z p l e R s m args below meth c D A 6 (MQ below (QI D (U := KS) post (kw cy a rw) A) args s 0 0 A) 0 0 (kw cy a rw S) [(0, .ref (a 35)), (1, .ref (a (2 + 2 * x1))), (2, .ref x2), (3, .int x3), (4, .int x4)] 10 [] := by
  intro n
  induction n with
  | zero => intro _ _ _ _ _ h; exact h.elim
  | succ n ih => intro S x1 x2 x3 x4 h; exact z_X2_isNever_F10 hrw b hk76 ih S x1 x2 x3 x4 h

def w_X2_isNever_B76 (cy : Nat → ClassId) (tE : Nat) (post : Int32 → KS → Prop) (k2 : KS → Nat → Nat → Int32 → Prop) (k82 : KS → Prop) (S : KS) (x1 : Nat) (x2 : Nat) (x3 : Int32) : Prop :=
  k2 S x1 x2 (x3 + 1)

set_option maxHeartbeats 200000 in
set_option maxRecDepth 100000 in
theorem z_X2_isNever_B76 {p : Program} {l : Launch} {e : Env} {R : Room} {s : State} {m : MethodId} {args : Array Value} {below : List Frame} {meth : Method} {c : Code} {D : va_G} {cy : Nat → ClassId} {T0 tB tE : Nat} {A : Nat → Prop} {a : Nat → Nat} {rw : Nat → Option Nat} (hrw : ∀ i, i < 6 → rw i = some (a (12 + 2 * i))) {post : Int32 → KS → Prop} {k2 : KS → Nat → Nat → Int32 → Prop} {k82 : KS → Prop} (b : Bz p R s m args meth c D cy T0 tB tE A 6 cX2_isNever RX2 (some .boolean) "isNever" 3 72 0 0) (hk2 : ∀ (S : KS) (x1 : Nat) (x2 : Nat) (x3 : Int32), k2 S x1 x2 x3 → Z p l e R s m args below meth c D A 6 (MQ below (QI D (U := KS) post (kw cy a rw) A) args s 0 0 A) 0 0 (kw cy a rw S) [(0, .ref (a 35)), (1, .ref (a (2 + 2 * x1))), (2, .ref x2), (3, .int x3)] 2 []) (hk82 : ∀ (S : KS), k82 S → Z p l e R s m args below meth c D A 6 (MQ below (QI D (U := KS) post (kw cy a rw) A) args s 0 0 A) 0 0 (kw cy a rw S) [] 82 []) (S : KS) (x1 : Nat) (x2 : Nat) (x3 : Int32) (h : w_X2_isNever_B76 cy tE post k2 k82 S x1 x2 x3) : Z p l e R s m args below meth c D A 6 (MQ below (QI D (U := KS) post (kw cy a rw) A) args s 0 0 A) 0 0 (kw cy a rw S) [(0, .ref (a 35)), (1, .ref (a (2 + 2 * x1))), (2, .ref x2), (3, .int x3)] 76 [] := by
  unfold w_X2_isNever_B76 at h
  refine z_iinc (k9 := 3) (v := (x3 + 1)) (lv' := [(3, .int (x3 + 1)), (0, .ref (a 35)), (1, .ref (a (2 + 2 * x1))), (2, .ref x2)]) b dX2_isNever_76 rfl rfl (by decide) rfl ?_
  refine z_goto (tgt := 2) b dX2_isNever_79 (by decide) ?_
  refine z_lv0 (lv' := [(0, .ref (a 35)), (1, .ref (a (2 + 2 * x1))), (2, .ref x2), (3, .int (x3 + 1))]) [1, 2, 3, 0] rfl ?_
  exact hk2 _ _ _ _ h

def w_X2_isNever_F2 (cy : Nat → ClassId) (tE : Nat) (post : Int32 → KS → Prop) (k82 : KS → Prop) (k2 : KS → Nat → Nat → Int32 → Prop) (S : KS) (x1 : Nat) (x2 : Nat) (x3 : Int32) : Prop :=
  ((3 ≤ x3.toInt → k82 S) ∧ (x3.toInt < 3 → ∃ n, lpn (w_X2_isNever_F10 cy tE post (w_X2_isNever_B76 cy tE post k2 k82)) (fun _ _ _ _ _ => False) n S x1 x2 x3 0))

set_option maxHeartbeats 200000 in
set_option maxRecDepth 100000 in
theorem z_X2_isNever_F2 {p : Program} {l : Launch} {e : Env} {R : Room} {s : State} {m : MethodId} {args : Array Value} {below : List Frame} {meth : Method} {c : Code} {D : va_G} {cy : Nat → ClassId} {T0 tB tE : Nat} {A : Nat → Prop} {a : Nat → Nat} {rw : Nat → Option Nat} (hrw : ∀ i, i < 6 → rw i = some (a (12 + 2 * i))) {post : Int32 → KS → Prop} {k82 : KS → Prop} {k2 : KS → Nat → Nat → Int32 → Prop} (b : Bz p R s m args meth c D cy T0 tB tE A 6 cX2_isNever RX2 (some .boolean) "isNever" 3 72 0 0) (hk82 : ∀ (S : KS), k82 S → Z p l e R s m args below meth c D A 6 (MQ below (QI D (U := KS) post (kw cy a rw) A) args s 0 0 A) 0 0 (kw cy a rw S) [] 82 []) (hk2 : ∀ (S : KS) (x1 : Nat) (x2 : Nat) (x3 : Int32), k2 S x1 x2 x3 → Z p l e R s m args below meth c D A 6 (MQ below (QI D (U := KS) post (kw cy a rw) A) args s 0 0 A) 0 0 (kw cy a rw S) [(0, .ref (a 35)), (1, .ref (a (2 + 2 * x1))), (2, .ref x2), (3, .int x3)] 2 []) (S : KS) (x1 : Nat) (x2 : Nat) (x3 : Int32) (h : w_X2_isNever_F2 cy tE post k82 k2 S x1 x2 x3) : Z p l e R s m args below meth c D A 6 (MQ below (QI D (U := KS) post (kw cy a rw) A) args s 0 0 A) 0 0 (kw cy a rw S) [(0, .ref (a 35)), (1, .ref (a (2 + 2 * x1))), (2, .ref x2), (3, .int x3)] 2 [] := by
  unfold w_X2_isNever_F2 at h
  refine z_iload_n b dX2_isNever_2 rfl rfl ?_
  refine z_iconst (v := 3) b dX2_isNever_3 (by decide) ?_
  refine y_icmp_ge (tgt := 82) (xl := x3.toInt) (yl := 3) b rfl (by decide) dX2_isNever_4 (by decide) (fun c1 => ?_) (fun c1 => ?_)
  · replace h := h.1 c1
    refine z_lv0 (lv' := []) [] rfl ?_
    exact hk82 _ h
  · replace h := h.2 c1
    refine z_iconst (v := 0) b dX2_isNever_7 (by decide) ?_
    refine z_istore (lv' := [(4, .int 0), (0, .ref (a 35)), (1, .ref (a (2 + 2 * x1))), (2, .ref x2), (3, .int x3)]) b dX2_isNever_8 (by decide) rfl ?_
    refine z_lv0 (lv' := [(0, .ref (a 35)), (1, .ref (a (2 + 2 * x1))), (2, .ref x2), (3, .int x3), (4, .int 0)]) [1, 2, 3, 4, 0] rfl ?_
    obtain ⟨n, h⟩ := h
    exact zl_X2_isNever_L10 hrw b (fun S x1 x2 x3 h => z_X2_isNever_B76 hrw b hk2 hk82 _ _ _ _ h) n _ _ _ _ _ h

